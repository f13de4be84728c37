theorem dX4_copyFrom_4 : decode cX4_copyFrom 4 = .ok (.iconst 0, 1) := by decide +kernel
theorem dX4_copyFrom_5 : decode cX4_copyFrom 5 = .ok (.aload_n 0, 1) := by decide +kernel
theorem dX4_copyFrom_6 : decode cX4_copyFrom 6 = .ok (.getfield 9, 3) := by decide +kernel
theorem dX4_copyFrom_9 : decode cX4_copyFrom 9 = .ok (.iconst 0, 1) := by decide +kernel
theorem dX4_copyFrom_10 : decode cX4_copyFrom 10 = .ok (.bipush 12, 2) := by decide +kernel
theorem dX4_copyFrom_12 : decode cX4_copyFrom 12 = .ok (.invokestatic 41, 3) := by decide +kernel
theorem dX4_copyFrom_15 : decode cX4_copyFrom 15 = .ok (.aload_n 1, 1) := by decide +kernel
theorem dX4_copyFrom_16 : decode cX4_copyFrom 16 = .ok (.getfield 15, 3) := by decide +kernel
theorem dX4_copyFrom_19 : decode cX4_copyFrom 19 = .ok (.iconst 0, 1) := by decide +kernel
theorem dX4_copyFrom_20 : decode cX4_copyFrom 20 = .ok (.aload_n 0, 1) := by decide +kernel
theorem dX4_copyFrom_21 : decode cX4_copyFrom 21 = .ok (.getfield 15, 3) := by decide +kernel
theorem dX4_copyFrom_24 : decode cX4_copyFrom 24 = .ok (.iconst 0, 1) := by decide +kernel
theorem dX4_copyFrom_25 : decode cX4_copyFrom 25 = .ok (.bipush 12, 2) := by decide +kernel
theorem dX4_copyFrom_27 : decode cX4_copyFrom 27 = .ok (.invokestatic 41, 3) := by decide +kernel
theorem dX4_copyFrom_30 : decode cX4_copyFrom 30 = .ok (.aload_n 1, 1) := by decide +kernel
theorem dX4_copyFrom_31 : decode cX4_copyFrom 31 = .ok (.getfield 18, 3) := by decide +kernel
theorem dX4_copyFrom_34 : decode cX4_copyFrom 34 = .ok (.iconst 0, 1) := by decide +kernel
theorem dX4_copyFrom_35 : decode cX4_copyFrom 35 = .ok (.aload_n 0, 1) := by decide +kernel
theorem dX4_copyFrom_36 : decode cX4_copyFrom 36 = .ok (.getfield 18, 3) := by decide +kernel
theorem dX4_copyFrom_39 : decode cX4_copyFrom 39 = .ok (.iconst 0, 1) := by decide +kernel
theorem dX4_copyFrom_40 : decode cX4_copyFrom 40 = .ok (.bipush 12, 2) := by decide +kernel
theorem dX4_copyFrom_42 : decode cX4_copyFrom 42 = .ok (.invokestatic 41, 3) := by decide +kernel
theorem dX4_copyFrom_45 : decode cX4_copyFrom 45 = .ok (.aload_n 1, 1) := by decide +kernel
theorem dX4_copyFrom_46 : decode cX4_copyFrom 46 = .ok (.getfield 22, 3) := by decide +kernel
theorem dX4_copyFrom_49 : decode cX4_copyFrom 49 = .ok (.iconst 0, 1) := by decide +kernel
theorem dX4_copyFrom_50 : decode cX4_copyFrom 50 = .ok (.aload_n 0, 1) := by decide +kernel
theorem dX4_copyFrom_51 : decode cX4_copyFrom 51 = .ok (.getfield 22, 3) := by decide +kernel
theorem dX4_copyFrom_54 : decode cX4_copyFrom 54 = .ok (.iconst 0, 1) := by decide +kernel
theorem dX4_copyFrom_55 : decode cX4_copyFrom 55 = .ok (.bipush 12, 2) := by decide +kernel
theorem dX4_copyFrom_57 : decode cX4_copyFrom 57 = .ok (.invokestatic 41, 3) := by decide +kernel
theorem dX4_copyFrom_60 : decode cX4_copyFrom 60 = .ok (.aload_n 1, 1) := by decide +kernel
theorem dX4_copyFrom_61 : decode cX4_copyFrom 61 = .ok (.getfield 25, 3) := by decide +kernel
theorem dX4_copyFrom_64 : decode cX4_copyFrom 64 = .ok (.iconst 0, 1) := by decide +kernel
theorem dX4_copyFrom_65 : decode cX4_copyFrom 65 = .ok (.aload_n 0, 1) := by decide +kernel
theorem dX4_copyFrom_66 : decode cX4_copyFrom 66 = .ok (.getfield 25, 3) := by decide +kernel
theorem dX4_copyFrom_69 : decode cX4_copyFrom 69 = .ok (.iconst 0, 1) := by decide +kernel
theorem dX4_copyFrom_70 : decode cX4_copyFrom 70 = .ok (.bipush 12, 2) := by decide +kernel
theorem dX4_copyFrom_72 : decode cX4_copyFrom 72 = .ok (.invokestatic 41, 3) := by decide +kernel
theorem dX4_copyFrom_75 : decode cX4_copyFrom 75 = .ok (.aload_n 1, 1) := by decide +kernel
theorem dX4_copyFrom_76 : decode cX4_copyFrom 76 = .ok (.getfield 28, 3) := by decide +kernel
theorem dX4_copyFrom_79 : decode cX4_copyFrom 79 = .ok (.iconst 0, 1) := by decide +kernel
theorem dX4_copyFrom_80 : decode cX4_copyFrom 80 = .ok (.aload_n 0, 1) := by decide +kernel
theorem dX4_copyFrom_81 : decode cX4_copyFrom 81 = .ok (.getfield 28, 3) := by decide +kernel
theorem dX4_copyFrom_84 : decode cX4_copyFrom 84 = .ok (.iconst 0, 1) := by decide +kernel
theorem dX4_copyFrom_85 : decode cX4_copyFrom 85 = .ok (.bipush 12, 2) := by decide +kernel
theorem dX4_copyFrom_87 : decode cX4_copyFrom 87 = .ok (.invokestatic 41, 3) := by decide +kernel
theorem dX4_copyFrom_90 : decode cX4_copyFrom 90 = .ok (.aload_n 1, 1) := by decide +kernel
theorem dX4_copyFrom_91 : decode cX4_copyFrom 91 = .ok (.getfield 31, 3) := by decide +kernel
theorem dX4_copyFrom_94 : decode cX4_copyFrom 94 = .ok (.iconst 0, 1) := by decide +kernel
theorem dX4_copyFrom_95 : decode cX4_copyFrom 95 = .ok (.aload_n 0, 1) := by decide +kernel
theorem dX4_copyFrom_96 : decode cX4_copyFrom 96 = .ok (.getfield 31, 3) := by decide +kernel
theorem dX4_copyFrom_99 : decode cX4_copyFrom 99 = .ok (.iconst 0, 1) := by decide +kernel
theorem dX4_copyFrom_100 : decode cX4_copyFrom 100 = .ok (.bipush 12, 2) := by decide +kernel
theorem dX4_copyFrom_102 : decode cX4_copyFrom 102 = .ok (.invokestatic 41, 3) := by decide +kernel
theorem dX4_copyFrom_105 : decode cX4_copyFrom 105 = .ok (.aload_n 1, 1) := by decide +kernel
theorem dX4_copyFrom_106 : decode cX4_copyFrom 106 = .ok (.getfield 34, 3) := by decide +kernel
theorem dX4_copyFrom_109 : decode cX4_copyFrom 109 = .ok (.iconst 0, 1) := by decide +kernel
theorem dX4_copyFrom_110 : decode cX4_copyFrom 110 = .ok (.aload_n 0, 1) := by decide +kernel
theorem dX4_copyFrom_111 : decode cX4_copyFrom 111 = .ok (.getfield 34, 3) := by decide +kernel
theorem dX4_copyFrom_114 : decode cX4_copyFrom 114 = .ok (.iconst 0, 1) := by decide +kernel
theorem dX4_copyFrom_115 : decode cX4_copyFrom 115 = .ok (.bipush 12, 2) := by decide +kernel
theorem dX4_copyFrom_117 : decode cX4_copyFrom 117 = .ok (.invokestatic 41, 3) := by decide +kernel
theorem dX4_copyFrom_120 : decode cX4_copyFrom 120 = .ok (.aload_n 0, 1) := by decide +kernel
theorem dX4_copyFrom_121 : decode cX4_copyFrom 121 = .ok (.aload_n 1, 1) := by decide +kernel
theorem dX4_copyFrom_122 : decode cX4_copyFrom 122 = .ok (.getfield 37, 3) := by decide +kernel
theorem dX4_copyFrom_125 : decode cX4_copyFrom 125 = .ok (.putfield 37, 3) := by decide +kernel
theorem dX4_copyFrom_128 : decode cX4_copyFrom 128 = .ok (.return_, 1) := by decide +kernel
theorem dX4_areConnected_0 : decode cX4_areConnected 0 = .ok (.iconst 0, 1) := by decide +kernel
theorem dX4_areConnected_1 : decode cX4_areConnected 1 = .ok (.istore_n 3, 1) := by decide +kernel
theorem dX4_areConnected_2 : decode cX4_areConnected 2 = .ok (.iload_n 3, 1) := by decide +kernel
theorem dX4_areConnected_3 : decode cX4_areConnected 3 = .ok (.aload_n 0, 1) := by decide +kernel
theorem dX4_areConnected_4 : decode cX4_areConnected 4 = .ok (.getfield 37, 3) := by decide +kernel
theorem dX4_areConnected_7 : decode cX4_areConnected 7 = .ok (.if_icmp .ge 37, 3) := by decide +kernel
theorem dX4_areConnected_10 : decode cX4_areConnected 10 = .ok (.iload_n 3, 1) := by decide +kernel
theorem dX4_areConnected_11 : decode cX4_areConnected 11 = .ok (.bipush 12, 2) := by decide +kernel
theorem dX4_areConnected_13 : decode cX4_areConnected 13 = .ok (.if_icmp .ge 31, 3) := by decide +kernel
theorem dX4_areConnected_16 : decode cX4_areConnected 16 = .ok (.aload_n 0, 1) := by decide +kernel
theorem dX4_areConnected_17 : decode cX4_areConnected 17 = .ok (.getfield 9, 3) := by decide +kernel
theorem dX4_areConnected_20 : decode cX4_areConnected 20 = .ok (.iload_n 3, 1) := by decide +kernel
theorem dX4_areConnected_21 : decode cX4_areConnected 21 = .ok (.iaload, 1) := by decide +kernel
theorem dX4_areConnected_22 : decode cX4_areConnected 22 = .ok (.iload_n 1, 1) := by decide +kernel
theorem dX4_areConnected_23 : decode cX4_areConnected 23 = .ok (.if_icmp .ne 15, 3) := by decide +kernel
theorem dX4_areConnected_26 : decode cX4_areConnected 26 = .ok (.aload_n 0, 1) := by decide +kernel
theorem dX4_areConnected_27 : decode cX4_areConnected 27 = .ok (.getfield 15, 3) := by decide +kernel
theorem dX4_areConnected_30 : decode cX4_areConnected 30 = .ok (.iload_n 3, 1) := by decide +kernel
theorem dX4_areConnected_31 : decode cX4_areConnected 31 = .ok (.iaload, 1) := by decide +kernel
theorem dX4_areConnected_32 : decode cX4_areConnected 32 = .ok (.iload_n 2, 1) := by decide +kernel
theorem dX4_areConnected_33 : decode cX4_areConnected 33 = .ok (.if_icmp .ne 5, 3) := by decide +kernel
theorem dX4_areConnected_36 : decode cX4_areConnected 36 = .ok (.iconst 1, 1) := by decide +kernel
theorem dX4_areConnected_37 : decode cX4_areConnected 37 = .ok (.ireturn, 1) := by decide +kernel
theorem dX4_areConnected_38 : decode cX4_areConnected 38 = .ok (.iinc 3 1, 3) := by decide +kernel
theorem dX4_areConnected_41 : decode cX4_areConnected 41 = .ok (.goto (-39), 3) := by decide +kernel
theorem dX4_areConnected_44 : decode cX4_areConnected 44 = .ok (.iconst 0, 1) := by decide +kernel
theorem dX4_areConnected_45 : decode cX4_areConnected 45 = .ok (.ireturn, 1) := by decide +kernel
theorem dX4_put_0 : decode cX4_put 0 = .ok (.aload_n 0, 1) := by decide +kernel
theorem dX4_put_1 : decode cX4_put 1 = .ok (.getfield 37, 3) := by decide +kernel
theorem dX4_put_4 : decode cX4_put 4 = .ok (.ifCond .lt 12, 3) := by decide +kernel
theorem dX4_put_7 : decode cX4_put 7 = .ok (.aload_n 0, 1) := by decide +kernel
theorem dX4_put_8 : decode cX4_put 8 = .ok (.getfield 37, 3) := by decide +kernel
theorem dX4_put_11 : decode cX4_put 11 = .ok (.bipush 12, 2) := by decide +kernel
theorem dX4_put_13 : decode cX4_put 13 = .ok (.if_icmp .lt 6, 3) := by decide +kernel
theorem dX4_put_16 : decode cX4_put 16 = .ok (.bipush (-4), 2) := by decide +kernel
theorem dX4_put_18 : decode cX4_put 18 = .ok (.ireturn, 1) := by decide +kernel
theorem dX4_put_19 : decode cX4_put 19 = .ok (.aload_n 0, 1) := by decide +kernel
theorem dX4_put_20 : decode cX4_put 20 = .ok (.getfield 37, 3) := by decide +kernel
theorem dX4_put_23 : decode cX4_put 23 = .ok (.istore 5, 2) := by decide +kernel
theorem dX4_put_25 : decode cX4_put 25 = .ok (.aload_n 0, 1) := by decide +kernel
theorem dX4_put_26 : decode cX4_put 26 = .ok (.getfield 9, 3) := by decide +kernel
theorem dX4_put_29 : decode cX4_put 29 = .ok (.iload 5, 2) := by decide +kernel
theorem dX4_put_31 : decode cX4_put 31 = .ok (.iload_n 1, 1) := by decide +kernel
theorem dX4_put_32 : decode cX4_put 32 = .ok (.iastore, 1) := by decide +kernel
theorem dX4_put_33 : decode cX4_put 33 = .ok (.aload_n 0, 1) := by decide +kernel
theorem dX4_put_34 : decode cX4_put 34 = .ok (.getfield 15, 3) := by decide +kernel
theorem dX4_put_37 : decode cX4_put 37 = .ok (.iload 5, 2) := by decide +kernel
theorem dX4_put_39 : decode cX4_put 39 = .ok (.iload_n 2, 1) := by decide +kernel
theorem dX4_put_40 : decode cX4_put 40 = .ok (.iastore, 1) := by decide +kernel
theorem dX4_put_41 : decode cX4_put 41 = .ok (.aload_n 0, 1) := by decide +kernel
theorem dX4_put_42 : decode cX4_put 42 = .ok (.getfield 18, 3) := by decide +kernel
theorem dX4_put_45 : decode cX4_put 45 = .ok (.iload 5, 2) := by decide +kernel
theorem dX4_put_47 : decode cX4_put 47 = .ok (.iload_n 3, 1) := by decide +kernel
theorem dX4_put_48 : decode cX4_put 48 = .ok (.castore, 1) := by decide +kernel
theorem dX4_put_49 : decode cX4_put 49 = .ok (.aload_n 0, 1) := by decide +kernel
theorem dX4_put_50 : decode cX4_put 50 = .ok (.getfield 22, 3) := by decide +kernel
theorem dX4_put_53 : decode cX4_put 53 = .ok (.iload 5, 2) := by decide +kernel
theorem dX4_put_55 : decode cX4_put 55 = .ok (.iload 4, 2) := by decide +kernel
theorem dX4_put_57 : decode cX4_put 57 = .ok (.iastore, 1) := by decide +kernel
theorem dX4_put_58 : decode cX4_put 58 = .ok (.aload_n 0, 1) := by decide +kernel
theorem dX4_put_59 : decode cX4_put 59 = .ok (.getfield 25, 3) := by decide +kernel
theorem dX4_put_62 : decode cX4_put 62 = .ok (.iload 5, 2) := by decide +kernel
theorem dX4_put_64 : decode cX4_put 64 = .ok (.iconst 0, 1) := by decide +kernel
theorem dX4_put_65 : decode cX4_put 65 = .ok (.iastore, 1) := by decide +kernel
theorem dX4_put_66 : decode cX4_put 66 = .ok (.aload_n 0, 1) := by decide +kernel
theorem dX4_put_67 : decode cX4_put 67 = .ok (.getfield 28, 3) := by decide +kernel
theorem dX4_put_70 : decode cX4_put 70 = .ok (.iload 5, 2) := by decide +kernel
theorem dX4_put_72 : decode cX4_put 72 = .ok (.iconst 0, 1) := by decide +kernel
theorem dX4_put_73 : decode cX4_put 73 = .ok (.iastore, 1) := by decide +kernel
theorem dX4_put_74 : decode cX4_put 74 = .ok (.aload_n 0, 1) := by decide +kernel
theorem dX4_put_75 : decode cX4_put 75 = .ok (.getfield 31, 3) := by decide +kernel
theorem dX4_put_78 : decode cX4_put 78 = .ok (.iload 5, 2) := by decide +kernel
theorem dX4_put_80 : decode cX4_put 80 = .ok (.iconst 0, 1) := by decide +kernel
theorem dX4_put_81 : decode cX4_put 81 = .ok (.iastore, 1) := by decide +kernel
theorem dX4_put_82 : decode cX4_put 82 = .ok (.aload_n 0, 1) := by decide +kernel
theorem dX4_put_83 : decode cX4_put 83 = .ok (.getfield 34, 3) := by decide +kernel
theorem dX4_put_86 : decode cX4_put 86 = .ok (.iload 5, 2) := by decide +kernel
theorem dX4_put_88 : decode cX4_put 88 = .ok (.iconst 0, 1) := by decide +kernel
theorem dX4_put_89 : decode cX4_put 89 = .ok (.iastore, 1) := by decide +kernel
theorem dX4_put_90 : decode cX4_put 90 = .ok (.aload_n 0, 1) := by decide +kernel
theorem dX4_put_91 : decode cX4_put 91 = .ok (.dup, 1) := by decide +kernel
theorem dX4_put_92 : decode cX4_put 92 = .ok (.getfield 37, 3) := by decide +kernel
theorem dX4_put_95 : decode cX4_put 95 = .ok (.iconst 1, 1) := by decide +kernel
theorem dX4_put_96 : decode cX4_put 96 = .ok (.iadd, 1) := by decide +kernel
theorem dX4_put_97 : decode cX4_put 97 = .ok (.putfield 37, 3) := by decide +kernel
theorem dX4_put_100 : decode cX4_put 100 = .ok (.iload 5, 2) := by decide +kernel
theorem dX4_put_102 : decode cX4_put 102 = .ok (.ireturn, 1) := by decide +kernel
theorem dX4_otherEnd_0 : decode cX4_otherEnd 0 = .ok (.iload_n 1, 1) := by decide +kernel
theorem dX4_otherEnd_1 : decode cX4_otherEnd 1 = .ok (.ifCond .lt 9, 3) := by decide +kernel
theorem dX4_otherEnd_4 : decode cX4_otherEnd 4 = .ok (.iload_n 1, 1) := by decide +kernel
theorem dX4_otherEnd_5 : decode cX4_otherEnd 5 = .ok (.bipush 12, 2) := by decide +kernel
theorem dX4_otherEnd_7 : decode cX4_otherEnd 7 = .ok (.if_icmp .lt 5, 3) := by decide +kernel
theorem dX4_otherEnd_10 : decode cX4_otherEnd 10 = .ok (.iconst (-1), 1) := by decide +kernel
theorem dX4_otherEnd_11 : decode cX4_otherEnd 11 = .ok (.ireturn, 1) := by decide +kernel
theorem dX4_otherEnd_12 : decode cX4_otherEnd 12 = .ok (.aload_n 0, 1) := by decide +kernel
theorem dX4_otherEnd_13 : decode cX4_otherEnd 13 = .ok (.getfield 9, 3) := by decide +kernel
theorem dX4_otherEnd_16 : decode cX4_otherEnd 16 = .ok (.iload_n 1, 1) := by decide +kernel
theorem dX4_otherEnd_17 : decode cX4_otherEnd 17 = .ok (.iaload, 1) := by decide +kernel
theorem dX4_otherEnd_18 : decode cX4_otherEnd 18 = .ok (.iload_n 2, 1) := by decide +kernel
theorem dX4_otherEnd_19 : decode cX4_otherEnd 19 = .ok (.if_icmp .ne 10, 3) := by decide +kernel
theorem dX4_otherEnd_22 : decode cX4_otherEnd 22 = .ok (.aload_n 0, 1) := by decide +kernel
theorem dX4_otherEnd_23 : decode cX4_otherEnd 23 = .ok (.getfield 15, 3) := by decide +kernel
theorem dX4_otherEnd_26 : decode cX4_otherEnd 26 = .ok (.iload_n 1, 1) := by decide +kernel
theorem dX4_otherEnd_27 : decode cX4_otherEnd 27 = .ok (.iaload, 1) := by decide +kernel
theorem dX4_otherEnd_28 : decode cX4_otherEnd 28 = .ok (.ireturn, 1) := by decide +kernel
theorem dX4_otherEnd_29 : decode cX4_otherEnd 29 = .ok (.aload_n 0, 1) := by decide +kernel
theorem dX4_otherEnd_30 : decode cX4_otherEnd 30 = .ok (.getfield 15, 3) := by decide +kernel
theorem dX4_otherEnd_33 : decode cX4_otherEnd 33 = .ok (.iload_n 1, 1) := by decide +kernel
theorem dX4_otherEnd_34 : decode cX4_otherEnd 34 = .ok (.iaload, 1) := by decide +kernel
theorem dX4_otherEnd_35 : decode cX4_otherEnd 35 = .ok (.iload_n 2, 1) := by decide +kernel
theorem dX4_otherEnd_36 : decode cX4_otherEnd 36 = .ok (.if_icmp .ne 12, 3) := by decide +kernel
theorem dX4_otherEnd_39 : decode cX4_otherEnd 39 = .ok (.aload_n 0, 1) := by decide +kernel
theorem dX4_otherEnd_40 : decode cX4_otherEnd 40 = .ok (.getfield 9, 3) := by decide +kernel
theorem dX4_otherEnd_43 : decode cX4_otherEnd 43 = .ok (.iload_n 1, 1) := by decide +kernel
theorem dX4_otherEnd_44 : decode cX4_otherEnd 44 = .ok (.iaload, 1) := by decide +kernel
theorem dX4_otherEnd_45 : decode cX4_otherEnd 45 = .ok (.goto 4, 3) := by decide +kernel
theorem dX4_otherEnd_48 : decode cX4_otherEnd 48 = .ok (.iconst (-1), 1) := by decide +kernel
theorem dX4_otherEnd_49 : decode cX4_otherEnd 49 = .ok (.ireturn, 1) := by decide +kernel
set_option maxRecDepth 20000 in
theorem ggX4_excess_X4_has : GoodIn wsX4_excess wsX4_has := goodIn_r _ [7, 8, 9, 10, 11, 12, 13, 14, 15, 16, 17] (by decide +kernel) (by decide +kernel)
set_option maxRecDepth 20000 in
theorem gX4_excess_X4_has : GoodIn wsX4_excess (wsV RX4 47 RX4 yX4_has wsX4_has) := goodIn_app (goodIn_of _ (by decide +kernel)) ggX4_excess_X4_has
theorem dX4_excess_0 : decode cX4_excess 0 = .ok (.aload_n 0, 1) := by decide +kernel
theorem dX4_excess_1 : decode cX4_excess 1 = .ok (.iload_n 1, 1) := by decide +kernel
theorem dX4_excess_2 : decode cX4_excess 2 = .ok (.invokevirtual 47, 3) := by decide +kernel
theorem dX4_excess_5 : decode cX4_excess 5 = .ok (.ifCond .ne 5, 3) := by decide +kernel
theorem dX4_excess_8 : decode cX4_excess 8 = .ok (.iconst 0, 1) := by decide +kernel
theorem dX4_excess_9 : decode cX4_excess 9 = .ok (.ireturn, 1) := by decide +kernel
theorem dX4_excess_10 : decode cX4_excess 10 = .ok (.aload_n 0, 1) := by decide +kernel
theorem dX4_excess_11 : decode cX4_excess 11 = .ok (.getfield 18, 3) := by decide +kernel
theorem dX4_excess_14 : decode cX4_excess 14 = .ok (.iload_n 1, 1) := by decide +kernel
theorem dX4_excess_15 : decode cX4_excess 15 = .ok (.caload, 1) := by decide +kernel
theorem dX4_excess_16 : decode cX4_excess 16 = .ok (.bipush 97, 2) := by decide +kernel
theorem dX4_excess_18 : decode cX4_excess 18 = .ok (.if_icmp .ne 7, 3) := by decide +kernel
theorem dX4_excess_21 : decode cX4_excess 21 = .ok (.iconst 5, 1) := by decide +kernel
theorem dX4_excess_22 : decode cX4_excess 22 = .ok (.goto 21, 3) := by decide +kernel
theorem dX4_excess_25 : decode cX4_excess 25 = .ok (.aload_n 0, 1) := by decide +kernel
theorem dX4_excess_26 : decode cX4_excess 26 = .ok (.getfield 18, 3) := by decide +kernel
theorem dX4_excess_29 : decode cX4_excess 29 = .ok (.iload_n 1, 1) := by decide +kernel
theorem dX4_excess_30 : decode cX4_excess 30 = .ok (.caload, 1) := by decide +kernel
theorem dX4_excess_31 : decode cX4_excess 31 = .ok (.bipush 98, 2) := by decide +kernel
theorem dX4_excess_33 : decode cX4_excess 33 = .ok (.if_icmp .ne 8, 3) := by decide +kernel
theorem dX4_excess_36 : decode cX4_excess 36 = .ok (.bipush 10, 2) := by decide +kernel
theorem dX4_excess_38 : decode cX4_excess 38 = .ok (.goto 5, 3) := by decide +kernel
theorem dX4_excess_41 : decode cX4_excess 41 = .ok (.bipush 15, 2) := by decide +kernel
theorem dX4_excess_43 : decode cX4_excess 43 = .ok (.istore_n 2, 1) := by decide +kernel
theorem dX4_excess_44 : decode cX4_excess 44 = .ok (.aload_n 0, 1) := by decide +kernel
theorem dX4_excess_45 : decode cX4_excess 45 = .ok (.getfield 25, 3) := by decide +kernel
theorem dX4_excess_48 : decode cX4_excess 48 = .ok (.iload_n 1, 1) := by decide +kernel
theorem dX4_excess_49 : decode cX4_excess 49 = .ok (.iaload, 1) := by decide +kernel
theorem dX4_excess_50 : decode cX4_excess 50 = .ok (.iload_n 2, 1) := by decide +kernel
theorem dX4_excess_51 : decode cX4_excess 51 = .ok (.isub, 1) := by decide +kernel
theorem dX4_excess_52 : decode cX4_excess 52 = .ok (.ireturn, 1) := by decide +kernel
set_option maxRecDepth 20000 in
theorem ggX4_saltLeft_X4_has : GoodIn wsX4_saltLeft wsX4_has := goodIn_r _ [6, 7, 8, 9, 10, 11, 12, 13, 14, 15, 16] (by decide +kernel) (by decide +kernel)
set_option maxRecDepth 20000 in
theorem gX4_saltLeft_X4_has : GoodIn wsX4_saltLeft (wsV RX4 47 RX4 yX4_has wsX4_has) := goodIn_app (goodIn_of _ (by decide +kernel)) ggX4_saltLeft_X4_has
theorem dX4_saltLeft_0 : decode cX4_saltLeft 0 = .ok (.aload_n 0, 1) := by decide +kernel
theorem dX4_saltLeft_1 : decode cX4_saltLeft 1 = .ok (.iload_n 1, 1) := by decide +kernel
theorem dX4_saltLeft_2 : decode cX4_saltLeft 2 = .ok (.invokevirtual 47, 3) := by decide +kernel
theorem dX4_saltLeft_5 : decode cX4_saltLeft 5 = .ok (.ifCond .eq 14, 3) := by decide +kernel
theorem dX4_saltLeft_8 : decode cX4_saltLeft 8 = .ok (.aload_n 0, 1) := by decide +kernel
theorem dX4_saltLeft_9 : decode cX4_saltLeft 9 = .ok (.getfield 28, 3) := by decide +kernel
theorem dX4_saltLeft_12 : decode cX4_saltLeft 12 = .ok (.iload_n 1, 1) := by decide +kernel
theorem dX4_saltLeft_13 : decode cX4_saltLeft 13 = .ok (.iaload, 1) := by decide +kernel
theorem dX4_saltLeft_14 : decode cX4_saltLeft 14 = .ok (.iload_n 2, 1) := by decide +kernel
theorem dX4_saltLeft_15 : decode cX4_saltLeft 15 = .ok (.isub, 1) := by decide +kernel
theorem dX4_saltLeft_16 : decode cX4_saltLeft 16 = .ok (.goto 4, 3) := by decide +kernel
theorem dX4_saltLeft_19 : decode cX4_saltLeft 19 = .ok (.iconst 0, 1) := by decide +kernel
theorem dX4_saltLeft_20 : decode cX4_saltLeft 20 = .ok (.ireturn, 1) := by decide +kernel
set_option maxRecDepth 20000 in
theorem ggX4_timesCleared_X4_has : GoodIn wsX4_timesCleared wsX4_has := goodIn_r _ [6, 7, 8, 9, 10, 11, 12, 13, 14, 15, 16] (by decide +kernel) (by decide +kernel)
set_option maxRecDepth 20000 in
theorem gX4_timesCleared_X4_has : GoodIn wsX4_timesCleared (wsV RX4 47 RX4 yX4_has wsX4_has) := goodIn_app (goodIn_of _ (by decide +kernel)) ggX4_timesCleared_X4_has
theorem dX4_timesCleared_0 : decode cX4_timesCleared 0 = .ok (.aload_n 0, 1) := by decide +kernel
theorem dX4_timesCleared_1 : decode cX4_timesCleared 1 = .ok (.iload_n 1, 1) := by decide +kernel
theorem dX4_timesCleared_2 : decode cX4_timesCleared 2 = .ok (.invokevirtual 47, 3) := by decide +kernel
theorem dX4_timesCleared_5 : decode cX4_timesCleared 5 = .ok (.ifCond .eq 12, 3) := by decide +kernel
theorem dX4_timesCleared_8 : decode cX4_timesCleared 8 = .ok (.aload_n 0, 1) := by decide +kernel
theorem dX4_timesCleared_9 : decode cX4_timesCleared 9 = .ok (.getfield 34, 3) := by decide +kernel
theorem dX4_timesCleared_12 : decode cX4_timesCleared 12 = .ok (.iload_n 1, 1) := by decide +kernel
theorem dX4_timesCleared_13 : decode cX4_timesCleared 13 = .ok (.iaload, 1) := by decide +kernel
theorem dX4_timesCleared_14 : decode cX4_timesCleared 14 = .ok (.goto 4, 3) := by decide +kernel
theorem dX4_timesCleared_17 : decode cX4_timesCleared 17 = .ok (.iconst 0, 1) := by decide +kernel
theorem dX4_timesCleared_18 : decode cX4_timesCleared 18 = .ok (.ireturn, 1) := by decide +kernel
set_option maxRecDepth 20000 in
theorem ggX4_atRank_X4_rankOf : GoodIn wsX4_atRank wsX4_rankOf := goodIn_ca (goodIn_r _ [6, 1, 7, 8, 9, 5, 10, 11, 12, 13, 14, 15, 16, 17, 18, 19, 20, 21, 22, 23, 24, 25, 26, 27, 28, 29] (by decide +kernel) (by decide +kernel)) (goodIn_sub (fun _ h => List.mem_cons_of_mem _ (List.mem_append_right _ h)) (by decide +kernel))
set_option maxRecDepth 20000 in
theorem gX4_atRank_X4_rankOf : GoodIn wsX4_atRank (wsV RX4 51 RX4 yX4_rankOf wsX4_rankOf) := goodIn_app (goodIn_of _ (by decide +kernel)) ggX4_atRank_X4_rankOf
theorem dX4_atRank_0 : decode cX4_atRank 0 = .ok (.iconst 0, 1) := by decide +kernel
theorem dX4_atRank_1 : decode cX4_atRank 1 = .ok (.istore_n 2, 1) := by decide +kernel
theorem dX4_atRank_2 : decode cX4_atRank 2 = .ok (.iload_n 2, 1) := by decide +kernel
theorem dX4_atRank_3 : decode cX4_atRank 3 = .ok (.aload_n 0, 1) := by decide +kernel
theorem dX4_atRank_4 : decode cX4_atRank 4 = .ok (.getfield 37, 3) := by decide +kernel
theorem dX4_atRank_7 : decode cX4_atRank 7 = .ok (.if_icmp .ge 20, 3) := by decide +kernel
theorem dX4_atRank_10 : decode cX4_atRank 10 = .ok (.aload_n 0, 1) := by decide +kernel
theorem dX4_atRank_11 : decode cX4_atRank 11 = .ok (.iload_n 2, 1) := by decide +kernel
theorem dX4_atRank_12 : decode cX4_atRank 12 = .ok (.invokevirtual 51, 3) := by decide +kernel
theorem dX4_atRank_15 : decode cX4_atRank 15 = .ok (.iload_n 1, 1) := by decide +kernel
theorem dX4_atRank_16 : decode cX4_atRank 16 = .ok (.if_icmp .ne 5, 3) := by decide +kernel
theorem dX4_atRank_19 : decode cX4_atRank 19 = .ok (.iload_n 2, 1) := by decide +kernel
theorem dX4_atRank_20 : decode cX4_atRank 20 = .ok (.ireturn, 1) := by decide +kernel
theorem dX4_atRank_21 : decode cX4_atRank 21 = .ok (.iinc 2 1, 3) := by decide +kernel
theorem dX4_atRank_24 : decode cX4_atRank 24 = .ok (.goto (-22), 3) := by decide +kernel
theorem dX4_atRank_27 : decode cX4_atRank 27 = .ok (.iconst (-1), 1) := by decide +kernel
theorem dX4_atRank_28 : decode cX4_atRank 28 = .ok (.ireturn, 1) := by decide +kernel
set_option maxRecDepth 20000 in
theorem ggX4_rankOf_X4_precedes : GoodIn wsX4_rankOf wsX4_precedes := goodIn_ca (goodIn_r _ [6, 7, 8, 9, 10, 5, 11, 1, 12, 13, 14, 15, 16, 17, 18, 19, 20, 21, 22, 23, 24, 25] (by decide +kernel) (by decide +kernel)) (goodIn_sub (fun _ h => List.mem_cons_of_mem _ (List.mem_append_right _ h)) (by decide +kernel))
set_option maxRecDepth 20000 in
theorem gX4_rankOf_X4_precedes : GoodIn wsX4_rankOf (wsV RX4 55 RX4 yX4_precedes wsX4_precedes) := goodIn_app (goodIn_of _ (by decide +kernel)) ggX4_rankOf_X4_precedes
theorem dX4_rankOf_0 : decode cX4_rankOf 0 = .ok (.iconst 0, 1) := by decide +kernel
theorem dX4_rankOf_1 : decode cX4_rankOf 1 = .ok (.istore_n 2, 1) := by decide +kernel
theorem dX4_rankOf_2 : decode cX4_rankOf 2 = .ok (.iconst 0, 1) := by decide +kernel
theorem dX4_rankOf_3 : decode cX4_rankOf 3 = .ok (.istore_n 3, 1) := by decide +kernel
theorem dX4_rankOf_4 : decode cX4_rankOf 4 = .ok (.iload_n 3, 1) := by decide +kernel
theorem dX4_rankOf_5 : decode cX4_rankOf 5 = .ok (.aload_n 0, 1) := by decide +kernel
theorem dX4_rankOf_6 : decode cX4_rankOf 6 = .ok (.getfield 37, 3) := by decide +kernel
theorem dX4_rankOf_9 : decode cX4_rankOf 9 = .ok (.if_icmp .ge 21, 3) := by decide +kernel
theorem dX4_rankOf_12 : decode cX4_rankOf 12 = .ok (.aload_n 0, 1) := by decide +kernel
theorem dX4_rankOf_13 : decode cX4_rankOf 13 = .ok (.iload_n 3, 1) := by decide +kernel
theorem dX4_rankOf_14 : decode cX4_rankOf 14 = .ok (.iload_n 1, 1) := by decide +kernel
theorem dX4_rankOf_15 : decode cX4_rankOf 15 = .ok (.invokevirtual 55, 3) := by decide +kernel
theorem dX4_rankOf_18 : decode cX4_rankOf 18 = .ok (.ifCond .eq 6, 3) := by decide +kernel
theorem dX4_rankOf_21 : decode cX4_rankOf 21 = .ok (.iinc 2 1, 3) := by decide +kernel
theorem dX4_rankOf_24 : decode cX4_rankOf 24 = .ok (.iinc 3 1, 3) := by decide +kernel
theorem dX4_rankOf_27 : decode cX4_rankOf 27 = .ok (.goto (-23), 3) := by decide +kernel
theorem dX4_rankOf_30 : decode cX4_rankOf 30 = .ok (.iload_n 2, 1) := by decide +kernel
theorem dX4_rankOf_31 : decode cX4_rankOf 31 = .ok (.ireturn, 1) := by decide +kernel
set_option maxRecDepth 20000 in
theorem ggX4_precedes_X4_has : GoodIn wsX4_precedes wsX4_has := goodIn_r _ [6, 7, 13, 14, 15, 16, 17, 18, 19, 20, 21] (by decide +kernel) (by decide +kernel)
set_option maxRecDepth 20000 in
theorem gX4_precedes_X4_has : GoodIn wsX4_precedes (wsV RX4 47 RX4 yX4_has wsX4_has) := goodIn_app (goodIn_of _ (by decide +kernel)) ggX4_precedes_X4_has
set_option maxRecDepth 20000 in
theorem ggX4_precedes_X4_excess : GoodIn wsX4_precedes wsX4_excess := goodIn_ca (goodIn_r _ [11, 1, 12, 2, 3, 4, 5, 6, 7, 13, 14, 15, 16, 17, 18, 19, 20, 21] (by decide +kernel) (by decide +kernel)) (goodIn_sub (fun _ h => List.mem_cons_of_mem _ (List.mem_append_right _ h)) (by decide +kernel))
set_option maxRecDepth 20000 in
theorem gX4_precedes_X4_excess : GoodIn wsX4_precedes (wsV RX4 59 RX4 yX4_excess wsX4_excess) := goodIn_app (goodIn_of _ (by decide +kernel)) ggX4_precedes_X4_excess
theorem dX4_precedes_0 : decode cX4_precedes 0 = .ok (.aload_n 0, 1) := by decide +kernel
theorem dX4_precedes_1 : decode cX4_precedes 1 = .ok (.iload_n 1, 1) := by decide +kernel
theorem dX4_precedes_2 : decode cX4_precedes 2 = .ok (.invokevirtual 47, 3) := by decide +kernel
theorem dX4_precedes_5 : decode cX4_precedes 5 = .ok (.ifCond .eq 11, 3) := by decide +kernel
theorem dX4_precedes_8 : decode cX4_precedes 8 = .ok (.aload_n 0, 1) := by decide +kernel
theorem dX4_precedes_9 : decode cX4_precedes 9 = .ok (.iload_n 2, 1) := by decide +kernel
theorem dX4_precedes_10 : decode cX4_precedes 10 = .ok (.invokevirtual 47, 3) := by decide +kernel
theorem dX4_precedes_13 : decode cX4_precedes 13 = .ok (.ifCond .ne 5, 3) := by decide +kernel
theorem dX4_precedes_16 : decode cX4_precedes 16 = .ok (.iconst 0, 1) := by decide +kernel
theorem dX4_precedes_17 : decode cX4_precedes 17 = .ok (.ireturn, 1) := by decide +kernel
theorem dX4_precedes_18 : decode cX4_precedes 18 = .ok (.aload_n 0, 1) := by decide +kernel
theorem dX4_precedes_19 : decode cX4_precedes 19 = .ok (.iload_n 1, 1) := by decide +kernel
theorem dX4_precedes_20 : decode cX4_precedes 20 = .ok (.invokevirtual 59, 3) := by decide +kernel
theorem dX4_precedes_23 : decode cX4_precedes 23 = .ok (.aload_n 0, 1) := by decide +kernel
theorem dX4_precedes_24 : decode cX4_precedes 24 = .ok (.iload_n 2, 1) := by decide +kernel
theorem dX4_precedes_25 : decode cX4_precedes 25 = .ok (.invokevirtual 59, 3) := by decide +kernel
theorem dX4_precedes_28 : decode cX4_precedes 28 = .ok (.if_icmp .eq 22, 3) := by decide +kernel
theorem dX4_precedes_31 : decode cX4_precedes 31 = .ok (.aload_n 0, 1) := by decide +kernel
theorem dX4_precedes_32 : decode cX4_precedes 32 = .ok (.iload_n 1, 1) := by decide +kernel
theorem dX4_precedes_33 : decode cX4_precedes 33 = .ok (.invokevirtual 59, 3) := by decide +kernel
theorem dX4_precedes_36 : decode cX4_precedes 36 = .ok (.aload_n 0, 1) := by decide +kernel
theorem dX4_precedes_37 : decode cX4_precedes 37 = .ok (.iload_n 2, 1) := by decide +kernel
theorem dX4_precedes_38 : decode cX4_precedes 38 = .ok (.invokevirtual 59, 3) := by decide +kernel
theorem dX4_precedes_41 : decode cX4_precedes 41 = .ok (.if_icmp .le 7, 3) := by decide +kernel
theorem dX4_precedes_44 : decode cX4_precedes 44 = .ok (.iconst 1, 1) := by decide +kernel
theorem dX4_precedes_45 : decode cX4_precedes 45 = .ok (.goto 4, 3) := by decide +kernel
theorem dX4_precedes_48 : decode cX4_precedes 48 = .ok (.iconst 0, 1) := by decide +kernel
theorem dX4_precedes_49 : decode cX4_precedes 49 = .ok (.ireturn, 1) := by decide +kernel
theorem dX4_precedes_50 : decode cX4_precedes 50 = .ok (.aload_n 0, 1) := by decide +kernel
theorem dX4_precedes_51 : decode cX4_precedes 51 = .ok (.getfield 18, 3) := by decide +kernel
theorem dX4_precedes_54 : decode cX4_precedes 54 = .ok (.iload_n 1, 1) := by decide +kernel
theorem dX4_precedes_55 : decode cX4_precedes 55 = .ok (.caload, 1) := by decide +kernel
theorem dX4_precedes_56 : decode cX4_precedes 56 = .ok (.aload_n 0, 1) := by decide +kernel
theorem dX4_precedes_57 : decode cX4_precedes 57 = .ok (.getfield 18, 3) := by decide +kernel
theorem dX4_precedes_60 : decode cX4_precedes 60 = .ok (.iload_n 2, 1) := by decide +kernel
theorem dX4_precedes_61 : decode cX4_precedes 61 = .ok (.caload, 1) := by decide +kernel
theorem dX4_precedes_62 : decode cX4_precedes 62 = .ok (.if_icmp .eq 24, 3) := by decide +kernel
theorem dX4_precedes_65 : decode cX4_precedes 65 = .ok (.aload_n 0, 1) := by decide +kernel
theorem dX4_precedes_66 : decode cX4_precedes 66 = .ok (.getfield 18, 3) := by decide +kernel
theorem dX4_precedes_69 : decode cX4_precedes 69 = .ok (.iload_n 1, 1) := by decide +kernel
theorem dX4_precedes_70 : decode cX4_precedes 70 = .ok (.caload, 1) := by decide +kernel
theorem dX4_precedes_71 : decode cX4_precedes 71 = .ok (.aload_n 0, 1) := by decide +kernel
theorem dX4_precedes_72 : decode cX4_precedes 72 = .ok (.getfield 18, 3) := by decide +kernel
theorem dX4_precedes_75 : decode cX4_precedes 75 = .ok (.iload_n 2, 1) := by decide +kernel
theorem dX4_precedes_76 : decode cX4_precedes 76 = .ok (.caload, 1) := by decide +kernel
theorem dX4_precedes_77 : decode cX4_precedes 77 = .ok (.if_icmp .ge 7, 3) := by decide +kernel
theorem dX4_precedes_80 : decode cX4_precedes 80 = .ok (.iconst 1, 1) := by decide +kernel
theorem dX4_precedes_81 : decode cX4_precedes 81 = .ok (.goto 4, 3) := by decide +kernel
theorem dX4_precedes_84 : decode cX4_precedes 84 = .ok (.iconst 0, 1) := by decide +kernel
theorem dX4_precedes_85 : decode cX4_precedes 85 = .ok (.ireturn, 1) := by decide +kernel
theorem dX4_precedes_86 : decode cX4_precedes 86 = .ok (.iload_n 1, 1) := by decide +kernel
theorem dX4_precedes_87 : decode cX4_precedes 87 = .ok (.iload_n 2, 1) := by decide +kernel
theorem dX4_precedes_88 : decode cX4_precedes 88 = .ok (.if_icmp .ge 7, 3) := by decide +kernel
theorem dX4_precedes_91 : decode cX4_precedes 91 = .ok (.iconst 1, 1) := by decide +kernel
theorem dX4_precedes_92 : decode cX4_precedes 92 = .ok (.goto 4, 3) := by decide +kernel
theorem dX4_precedes_95 : decode cX4_precedes 95 = .ok (.iconst 0, 1) := by decide +kernel
theorem dX4_precedes_96 : decode cX4_precedes 96 = .ok (.ireturn, 1) := by decide +kernel
theorem dX4_complaintSum_0 : decode cX4_complaintSum 0 = .ok (.iconst 0, 1) := by decide +kernel
theorem dX4_complaintSum_1 : decode cX4_complaintSum 1 = .ok (.istore_n 1, 1) := by decide +kernel
theorem dX4_complaintSum_2 : decode cX4_complaintSum 2 = .ok (.iconst 0, 1) := by decide +kernel
theorem dX4_complaintSum_3 : decode cX4_complaintSum 3 = .ok (.istore_n 2, 1) := by decide +kernel
theorem dX4_complaintSum_4 : decode cX4_complaintSum 4 = .ok (.iload_n 2, 1) := by decide +kernel
theorem dX4_complaintSum_5 : decode cX4_complaintSum 5 = .ok (.aload_n 0, 1) := by decide +kernel
theorem dX4_complaintSum_6 : decode cX4_complaintSum 6 = .ok (.getfield 37, 3) := by decide +kernel
theorem dX4_complaintSum_9 : decode cX4_complaintSum 9 = .ok (.if_icmp .ge 24, 3) := by decide +kernel
theorem dX4_complaintSum_12 : decode cX4_complaintSum 12 = .ok (.iload_n 2, 1) := by decide +kernel
theorem dX4_complaintSum_13 : decode cX4_complaintSum 13 = .ok (.bipush 12, 2) := by decide +kernel
theorem dX4_complaintSum_15 : decode cX4_complaintSum 15 = .ok (.if_icmp .ge 18, 3) := by decide +kernel
theorem dX4_complaintSum_18 : decode cX4_complaintSum 18 = .ok (.iload_n 1, 1) := by decide +kernel
theorem dX4_complaintSum_19 : decode cX4_complaintSum 19 = .ok (.aload_n 0, 1) := by decide +kernel
theorem dX4_complaintSum_20 : decode cX4_complaintSum 20 = .ok (.getfield 31, 3) := by decide +kernel
theorem dX4_complaintSum_23 : decode cX4_complaintSum 23 = .ok (.iload_n 2, 1) := by decide +kernel
theorem dX4_complaintSum_24 : decode cX4_complaintSum 24 = .ok (.iaload, 1) := by decide +kernel
theorem dX4_complaintSum_25 : decode cX4_complaintSum 25 = .ok (.iadd, 1) := by decide +kernel
theorem dX4_complaintSum_26 : decode cX4_complaintSum 26 = .ok (.istore_n 1, 1) := by decide +kernel
theorem dX4_complaintSum_27 : decode cX4_complaintSum 27 = .ok (.iinc 2 1, 3) := by decide +kernel
theorem dX4_complaintSum_30 : decode cX4_complaintSum 30 = .ok (.goto (-26), 3) := by decide +kernel
theorem dX4_complaintSum_33 : decode cX4_complaintSum 33 = .ok (.iload_n 1, 1) := by decide +kernel
theorem dX4_complaintSum_34 : decode cX4_complaintSum 34 = .ok (.ireturn, 1) := by decide +kernel
theorem dX4_depthsAllowed_0 : decode cX4_depthsAllowed 0 = .ok (.iconst 0, 1) := by decide +kernel
theorem dX4_depthsAllowed_1 : decode cX4_depthsAllowed 1 = .ok (.istore_n 1, 1) := by decide +kernel
theorem dX4_depthsAllowed_2 : decode cX4_depthsAllowed 2 = .ok (.iload_n 1, 1) := by decide +kernel
theorem dX4_depthsAllowed_3 : decode cX4_depthsAllowed 3 = .ok (.aload_n 0, 1) := by decide +kernel
theorem dX4_depthsAllowed_4 : decode cX4_depthsAllowed 4 = .ok (.getfield 37, 3) := by decide +kernel
theorem dX4_depthsAllowed_7 : decode cX4_depthsAllowed 7 = .ok (.if_icmp .ge 38, 3) := by decide +kernel
theorem dX4_depthsAllowed_10 : decode cX4_depthsAllowed 10 = .ok (.iload_n 1, 1) := by decide +kernel
theorem dX4_depthsAllowed_11 : decode cX4_depthsAllowed 11 = .ok (.bipush 12, 2) := by decide +kernel
theorem dX4_depthsAllowed_13 : decode cX4_depthsAllowed 13 = .ok (.if_icmp .ge 32, 3) := by decide +kernel
theorem dX4_depthsAllowed_16 : decode cX4_depthsAllowed 16 = .ok (.aload_n 0, 1) := by decide +kernel
theorem dX4_depthsAllowed_17 : decode cX4_depthsAllowed 17 = .ok (.getfield 25, 3) := by decide +kernel
theorem dX4_depthsAllowed_20 : decode cX4_depthsAllowed 20 = .ok (.iload_n 1, 1) := by decide +kernel
theorem dX4_depthsAllowed_21 : decode cX4_depthsAllowed 21 = .ok (.iaload, 1) := by decide +kernel
theorem dX4_depthsAllowed_22 : decode cX4_depthsAllowed 22 = .ok (.ifCond .lt 15, 3) := by decide +kernel
theorem dX4_depthsAllowed_25 : decode cX4_depthsAllowed 25 = .ok (.aload_n 0, 1) := by decide +kernel
theorem dX4_depthsAllowed_26 : decode cX4_depthsAllowed 26 = .ok (.getfield 25, 3) := by decide +kernel
theorem dX4_depthsAllowed_29 : decode cX4_depthsAllowed 29 = .ok (.iload_n 1, 1) := by decide +kernel
theorem dX4_depthsAllowed_30 : decode cX4_depthsAllowed 30 = .ok (.iaload, 1) := by decide +kernel
theorem dX4_depthsAllowed_31 : decode cX4_depthsAllowed 31 = .ok (.sipush 200, 3) := by decide +kernel
theorem dX4_depthsAllowed_34 : decode cX4_depthsAllowed 34 = .ok (.if_icmp .le 5, 3) := by decide +kernel
theorem dX4_depthsAllowed_37 : decode cX4_depthsAllowed 37 = .ok (.iconst 0, 1) := by decide +kernel
theorem dX4_depthsAllowed_38 : decode cX4_depthsAllowed 38 = .ok (.ireturn, 1) := by decide +kernel
theorem dX4_depthsAllowed_39 : decode cX4_depthsAllowed 39 = .ok (.iinc 1 1, 3) := by decide +kernel
theorem dX4_depthsAllowed_42 : decode cX4_depthsAllowed 42 = .ok (.goto (-40), 3) := by decide +kernel
theorem dX4_depthsAllowed_45 : decode cX4_depthsAllowed 45 = .ok (.iconst 1, 1) := by decide +kernel
theorem dX4_depthsAllowed_46 : decode cX4_depthsAllowed 46 = .ok (.ireturn, 1) := by decide +kernel
theorem dX4_fall_0 : decode cX4_fall 0 = .ok (.iconst 0, 1) := by decide +kernel
theorem dX4_fall_1 : decode cX4_fall 1 = .ok (.istore_n 2, 1) := by decide +kernel
theorem dX4_fall_2 : decode cX4_fall 2 = .ok (.iload_n 2, 1) := by decide +kernel
theorem dX4_fall_3 : decode cX4_fall 3 = .ok (.aload_n 0, 1) := by decide +kernel
theorem dX4_fall_4 : decode cX4_fall 4 = .ok (.getfield 37, 3) := by decide +kernel
theorem dX4_fall_7 : decode cX4_fall 7 = .ok (.if_icmp .ge 35, 3) := by decide +kernel
theorem dX4_fall_10 : decode cX4_fall 10 = .ok (.iload_n 2, 1) := by decide +kernel
theorem dX4_fall_11 : decode cX4_fall 11 = .ok (.bipush 12, 2) := by decide +kernel
theorem dX4_fall_13 : decode cX4_fall 13 = .ok (.if_icmp .ge 29, 3) := by decide +kernel
theorem dX4_fall_16 : decode cX4_fall 16 = .ok (.aload_n 0, 1) := by decide +kernel
theorem dX4_fall_17 : decode cX4_fall 17 = .ok (.getfield 25, 3) := by decide +kernel
theorem dX4_fall_20 : decode cX4_fall 20 = .ok (.iload_n 2, 1) := by decide +kernel
theorem dX4_fall_21 : decode cX4_fall 21 = .ok (.aload_n 0, 1) := by decide +kernel
theorem dX4_fall_22 : decode cX4_fall 22 = .ok (.getfield 25, 3) := by decide +kernel
theorem dX4_fall_25 : decode cX4_fall 25 = .ok (.iload_n 2, 1) := by decide +kernel
theorem dX4_fall_26 : decode cX4_fall 26 = .ok (.iaload, 1) := by decide +kernel
theorem dX4_fall_27 : decode cX4_fall 27 = .ok (.iload_n 1, 1) := by decide +kernel
theorem dX4_fall_28 : decode cX4_fall 28 = .ok (.iadd, 1) := by decide +kernel
theorem dX4_fall_29 : decode cX4_fall 29 = .ok (.sipush 200, 3) := by decide +kernel
theorem dX4_fall_32 : decode cX4_fall 32 = .ok (.invokestatic 66, 3) := by decide +kernel
theorem dX4_fall_35 : decode cX4_fall 35 = .ok (.iastore, 1) := by decide +kernel
theorem dX4_fall_36 : decode cX4_fall 36 = .ok (.iinc 2 1, 3) := by decide +kernel
theorem dX4_fall_39 : decode cX4_fall 39 = .ok (.goto (-37), 3) := by decide +kernel
theorem dX4_fall_42 : decode cX4_fall 42 = .ok (.return_, 1) := by decide +kernel
theorem dX4_melt_0 : decode cX4_melt 0 = .ok (.iconst 0, 1) := by decide +kernel
theorem dX4_melt_1 : decode cX4_melt 1 = .ok (.istore_n 2, 1) := by decide +kernel
theorem dX4_melt_2 : decode cX4_melt 2 = .ok (.iload_n 2, 1) := by decide +kernel
theorem dX4_melt_3 : decode cX4_melt 3 = .ok (.aload_n 0, 1) := by decide +kernel
theorem dX4_melt_4 : decode cX4_melt 4 = .ok (.getfield 37, 3) := by decide +kernel
theorem dX4_melt_7 : decode cX4_melt 7 = .ok (.if_icmp .ge 43, 3) := by decide +kernel
theorem dX4_melt_10 : decode cX4_melt 10 = .ok (.iload_n 2, 1) := by decide +kernel
theorem dX4_melt_11 : decode cX4_melt 11 = .ok (.bipush 12, 2) := by decide +kernel
theorem dX4_melt_13 : decode cX4_melt 13 = .ok (.if_icmp .ge 37, 3) := by decide +kernel
theorem dX4_melt_16 : decode cX4_melt 16 = .ok (.aload_n 0, 1) := by decide +kernel
theorem dX4_melt_17 : decode cX4_melt 17 = .ok (.getfield 28, 3) := by decide +kernel
theorem dX4_melt_20 : decode cX4_melt 20 = .ok (.iload_n 2, 1) := by decide +kernel
theorem dX4_melt_21 : decode cX4_melt 21 = .ok (.iaload, 1) := by decide +kernel
theorem dX4_melt_22 : decode cX4_melt 22 = .ok (.iload_n 1, 1) := by decide +kernel
theorem dX4_melt_23 : decode cX4_melt 23 = .ok (.if_icmp .le 21, 3) := by decide +kernel
theorem dX4_melt_26 : decode cX4_melt 26 = .ok (.aload_n 0, 1) := by decide +kernel
theorem dX4_melt_27 : decode cX4_melt 27 = .ok (.getfield 25, 3) := by decide +kernel
theorem dX4_melt_30 : decode cX4_melt 30 = .ok (.iload_n 2, 1) := by decide +kernel
theorem dX4_melt_31 : decode cX4_melt 31 = .ok (.aload_n 0, 1) := by decide +kernel
theorem dX4_melt_32 : decode cX4_melt 32 = .ok (.getfield 25, 3) := by decide +kernel
theorem dX4_melt_35 : decode cX4_melt 35 = .ok (.iload_n 2, 1) := by decide +kernel
theorem dX4_melt_36 : decode cX4_melt 36 = .ok (.iaload, 1) := by decide +kernel
theorem dX4_melt_37 : decode cX4_melt 37 = .ok (.iconst 3, 1) := by decide +kernel
theorem dX4_melt_38 : decode cX4_melt 38 = .ok (.isub, 1) := by decide +kernel
theorem dX4_melt_39 : decode cX4_melt 39 = .ok (.iconst 0, 1) := by decide +kernel
theorem dX4_melt_40 : decode cX4_melt 40 = .ok (.invokestatic 71, 3) := by decide +kernel
theorem dX4_melt_43 : decode cX4_melt 43 = .ok (.iastore, 1) := by decide +kernel
theorem dX4_melt_44 : decode cX4_melt 44 = .ok (.iinc 2 1, 3) := by decide +kernel
theorem dX4_melt_47 : decode cX4_melt 47 = .ok (.goto (-45), 3) := by decide +kernel
theorem dX4_melt_50 : decode cX4_melt 50 = .ok (.return_, 1) := by decide +kernel
set_option maxRecDepth 20000 in
theorem ggX4_drift_X4_has : GoodIn wsX4_drift wsX4_has := goodIn_r _ [11, 1, 12, 13, 14, 15, 16, 17, 18, 19, 20] (by decide +kernel) (by decide +kernel)
set_option maxRecDepth 20000 in
theorem gX4_drift_X4_has : GoodIn wsX4_drift (wsV RX4 47 RX4 yX4_has wsX4_has) := goodIn_app (goodIn_of _ (by decide +kernel)) ggX4_drift_X4_has
theorem dX4_drift_0 : decode cX4_drift 0 = .ok (.aload_n 0, 1) := by decide +kernel
theorem dX4_drift_1 : decode cX4_drift 1 = .ok (.getfield 37, 3) := by decide +kernel
theorem dX4_drift_4 : decode cX4_drift 4 = .ok (.iconst 2, 1) := by decide +kernel
theorem dX4_drift_5 : decode cX4_drift 5 = .ok (.if_icmp .lt 16, 3) := by decide +kernel
theorem dX4_drift_8 : decode cX4_drift 8 = .ok (.aload_n 0, 1) := by decide +kernel
theorem dX4_drift_9 : decode cX4_drift 9 = .ok (.aload_n 0, 1) := by decide +kernel
theorem dX4_drift_10 : decode cX4_drift 10 = .ok (.getfield 37, 3) := by decide +kernel
theorem dX4_drift_13 : decode cX4_drift 13 = .ok (.iconst 1, 1) := by decide +kernel
theorem dX4_drift_14 : decode cX4_drift 14 = .ok (.isub, 1) := by decide +kernel
theorem dX4_drift_15 : decode cX4_drift 15 = .ok (.invokevirtual 47, 3) := by decide +kernel
theorem dX4_drift_18 : decode cX4_drift 18 = .ok (.ifCond .ne 4, 3) := by decide +kernel
theorem dX4_drift_21 : decode cX4_drift 21 = .ok (.return_, 1) := by decide +kernel
theorem dX4_drift_22 : decode cX4_drift 22 = .ok (.iload_n 1, 1) := by decide +kernel
theorem dX4_drift_23 : decode cX4_drift 23 = .ok (.aload_n 0, 1) := by decide +kernel
theorem dX4_drift_24 : decode cX4_drift 24 = .ok (.getfield 25, 3) := by decide +kernel
theorem dX4_drift_27 : decode cX4_drift 27 = .ok (.aload_n 0, 1) := by decide +kernel
theorem dX4_drift_28 : decode cX4_drift 28 = .ok (.getfield 37, 3) := by decide +kernel
theorem dX4_drift_31 : decode cX4_drift 31 = .ok (.iconst 1, 1) := by decide +kernel
theorem dX4_drift_32 : decode cX4_drift 32 = .ok (.isub, 1) := by decide +kernel
theorem dX4_drift_33 : decode cX4_drift 33 = .ok (.iaload, 1) := by decide +kernel
theorem dX4_drift_34 : decode cX4_drift 34 = .ok (.iconst 4, 1) := by decide +kernel
theorem dX4_drift_35 : decode cX4_drift 35 = .ok (.idiv, 1) := by decide +kernel
theorem dX4_drift_36 : decode cX4_drift 36 = .ok (.invokestatic 66, 3) := by decide +kernel
theorem dX4_drift_39 : decode cX4_drift 39 = .ok (.istore_n 2, 1) := by decide +kernel
theorem dX4_drift_40 : decode cX4_drift 40 = .ok (.iconst 0, 1) := by decide +kernel
theorem dX4_drift_41 : decode cX4_drift 41 = .ok (.istore_n 3, 1) := by decide +kernel
theorem dX4_drift_42 : decode cX4_drift 42 = .ok (.iload_n 3, 1) := by decide +kernel
theorem dX4_drift_43 : decode cX4_drift 43 = .ok (.aload_n 0, 1) := by decide +kernel
theorem dX4_drift_44 : decode cX4_drift 44 = .ok (.getfield 37, 3) := by decide +kernel
theorem dX4_drift_47 : decode cX4_drift 47 = .ok (.if_icmp .ge 55, 3) := by decide +kernel
theorem dX4_drift_50 : decode cX4_drift 50 = .ok (.iload_n 3, 1) := by decide +kernel
theorem dX4_drift_51 : decode cX4_drift 51 = .ok (.bipush 12, 2) := by decide +kernel
theorem dX4_drift_53 : decode cX4_drift 53 = .ok (.if_icmp .ge 49, 3) := by decide +kernel
theorem dX4_drift_56 : decode cX4_drift 56 = .ok (.iload_n 1, 1) := by decide +kernel
theorem dX4_drift_57 : decode cX4_drift 57 = .ok (.aload_n 0, 1) := by decide +kernel
theorem dX4_drift_58 : decode cX4_drift 58 = .ok (.getfield 25, 3) := by decide +kernel
theorem dX4_drift_61 : decode cX4_drift 61 = .ok (.iload_n 3, 1) := by decide +kernel
theorem dX4_drift_62 : decode cX4_drift 62 = .ok (.iaload, 1) := by decide +kernel
theorem dX4_drift_63 : decode cX4_drift 63 = .ok (.iconst 4, 1) := by decide +kernel
theorem dX4_drift_64 : decode cX4_drift 64 = .ok (.idiv, 1) := by decide +kernel
theorem dX4_drift_65 : decode cX4_drift 65 = .ok (.invokestatic 66, 3) := by decide +kernel
theorem dX4_drift_68 : decode cX4_drift 68 = .ok (.istore 4, 2) := by decide +kernel
theorem dX4_drift_70 : decode cX4_drift 70 = .ok (.aload_n 0, 1) := by decide +kernel
theorem dX4_drift_71 : decode cX4_drift 71 = .ok (.getfield 25, 3) := by decide +kernel
theorem dX4_drift_74 : decode cX4_drift 74 = .ok (.iload_n 3, 1) := by decide +kernel
theorem dX4_drift_75 : decode cX4_drift 75 = .ok (.aload_n 0, 1) := by decide +kernel
theorem dX4_drift_76 : decode cX4_drift 76 = .ok (.getfield 25, 3) := by decide +kernel
theorem dX4_drift_79 : decode cX4_drift 79 = .ok (.iload_n 3, 1) := by decide +kernel
theorem dX4_drift_80 : decode cX4_drift 80 = .ok (.iaload, 1) := by decide +kernel
theorem dX4_drift_81 : decode cX4_drift 81 = .ok (.iload 4, 2) := by decide +kernel
theorem dX4_drift_83 : decode cX4_drift 83 = .ok (.isub, 1) := by decide +kernel
theorem dX4_drift_84 : decode cX4_drift 84 = .ok (.iload_n 2, 1) := by decide +kernel
theorem dX4_drift_85 : decode cX4_drift 85 = .ok (.iadd, 1) := by decide +kernel
theorem dX4_drift_86 : decode cX4_drift 86 = .ok (.sipush 200, 3) := by decide +kernel
theorem dX4_drift_89 : decode cX4_drift 89 = .ok (.invokestatic 66, 3) := by decide +kernel
theorem dX4_drift_92 : decode cX4_drift 92 = .ok (.iastore, 1) := by decide +kernel
theorem dX4_drift_93 : decode cX4_drift 93 = .ok (.iload 4, 2) := by decide +kernel
theorem dX4_drift_95 : decode cX4_drift 95 = .ok (.istore_n 2, 1) := by decide +kernel
theorem dX4_drift_96 : decode cX4_drift 96 = .ok (.iinc 3 1, 3) := by decide +kernel
theorem dX4_drift_99 : decode cX4_drift 99 = .ok (.goto (-57), 3) := by decide +kernel
theorem dX4_drift_102 : decode cX4_drift 102 = .ok (.return_, 1) := by decide +kernel
set_option maxRecDepth 20000 in
theorem ggX4_complain_X4_excess : GoodIn wsX4_complain wsX4_excess := goodIn_ca (goodIn_r _ [7, 8, 9, 10, 11, 12, 6, 13, 1, 14, 15, 16, 17, 18, 19, 20, 21, 22] (by decide +kernel) (by decide +kernel)) (goodIn_sub (fun _ h => List.mem_cons_of_mem _ (List.mem_append_right _ h)) (by decide +kernel))
set_option maxRecDepth 20000 in
theorem gX4_complain_X4_excess : GoodIn wsX4_complain (wsV RX4 59 RX4 yX4_excess wsX4_excess) := goodIn_app (goodIn_of _ (by decide +kernel)) ggX4_complain_X4_excess
theorem dX4_complain_0 : decode cX4_complain 0 = .ok (.iconst 0, 1) := by decide +kernel
theorem dX4_complain_1 : decode cX4_complain 1 = .ok (.istore_n 1, 1) := by decide +kernel
theorem dX4_complain_2 : decode cX4_complain 2 = .ok (.iconst 0, 1) := by decide +kernel
theorem dX4_complain_3 : decode cX4_complain 3 = .ok (.istore_n 2, 1) := by decide +kernel
theorem dX4_complain_4 : decode cX4_complain 4 = .ok (.iload_n 2, 1) := by decide +kernel
theorem dX4_complain_5 : decode cX4_complain 5 = .ok (.aload_n 0, 1) := by decide +kernel
theorem dX4_complain_6 : decode cX4_complain 6 = .ok (.getfield 37, 3) := by decide +kernel
theorem dX4_complain_9 : decode cX4_complain 9 = .ok (.if_icmp .ge 36, 3) := by decide +kernel
theorem dX4_complain_12 : decode cX4_complain 12 = .ok (.iload_n 2, 1) := by decide +kernel
theorem dX4_complain_13 : decode cX4_complain 13 = .ok (.bipush 12, 2) := by decide +kernel
theorem dX4_complain_15 : decode cX4_complain 15 = .ok (.if_icmp .ge 30, 3) := by decide +kernel
theorem dX4_complain_18 : decode cX4_complain 18 = .ok (.aload_n 0, 1) := by decide +kernel
theorem dX4_complain_19 : decode cX4_complain 19 = .ok (.iload_n 2, 1) := by decide +kernel
theorem dX4_complain_20 : decode cX4_complain 20 = .ok (.invokevirtual 59, 3) := by decide +kernel
theorem dX4_complain_23 : decode cX4_complain 23 = .ok (.ifCond .le 16, 3) := by decide +kernel
theorem dX4_complain_26 : decode cX4_complain 26 = .ok (.aload_n 0, 1) := by decide +kernel
theorem dX4_complain_27 : decode cX4_complain 27 = .ok (.getfield 31, 3) := by decide +kernel
theorem dX4_complain_30 : decode cX4_complain 30 = .ok (.iload_n 2, 1) := by decide +kernel
theorem dX4_complain_31 : decode cX4_complain 31 = .ok (.dup2, 1) := by decide +kernel
theorem dX4_complain_32 : decode cX4_complain 32 = .ok (.iaload, 1) := by decide +kernel
theorem dX4_complain_33 : decode cX4_complain 33 = .ok (.iconst 1, 1) := by decide +kernel
theorem dX4_complain_34 : decode cX4_complain 34 = .ok (.iadd, 1) := by decide +kernel
theorem dX4_complain_35 : decode cX4_complain 35 = .ok (.iastore, 1) := by decide +kernel
theorem dX4_complain_36 : decode cX4_complain 36 = .ok (.iinc 1 1, 3) := by decide +kernel
theorem dX4_complain_39 : decode cX4_complain 39 = .ok (.iinc 2 1, 3) := by decide +kernel
theorem dX4_complain_42 : decode cX4_complain 42 = .ok (.goto (-38), 3) := by decide +kernel
theorem dX4_complain_45 : decode cX4_complain 45 = .ok (.iload_n 1, 1) := by decide +kernel
theorem dX4_complain_46 : decode cX4_complain 46 = .ok (.ireturn, 1) := by decide +kernel
set_option maxRecDepth 20000 in
theorem ggX5_init_X4_init : GoodIn wsX5_init wsX4_init := goodIn_r _ [14, 15, 2, 3, 16, 17, 18, 19, 20, 21, 22, 23, 24, 25, 45, 46, 47, 48, 49, 50, 51, 52, 53] (by decide +kernel) (by decide +kernel)
set_option maxRecDepth 20000 in
theorem gX5_init_X4_init_n17 : GoodIn wsX5_init (wsX4_init) := ggX5_init_X4_init
set_option maxRecDepth 20000 in
theorem ggX5_init_X2_init : GoodIn wsX5_init wsX2_init := goodIn_r _ [27, 28, 2, 3, 16, 29, 30, 31, 32, 33, 54, 55, 56, 57, 58, 59] (by decide +kernel) (by decide +kernel)
set_option maxRecDepth 20000 in
theorem gX5_init_X2_init_n24 : GoodIn wsX5_init (wsX2_init) := ggX5_init_X2_init
theorem dX5_init_0 : decode cX5_init 0 = .ok (.aload_n 0, 1) := by decide +kernel
theorem dX5_init_1 : decode cX5_init 1 = .ok (.invokespecial 3, 3) := by decide +kernel
theorem dX5_init_4 : decode cX5_init 4 = .ok (.aload_n 0, 1) := by decide +kernel
theorem dX5_init_5 : decode cX5_init 5 = .ok (.aload_n 1, 1) := by decide +kernel
theorem dX5_init_6 : decode cX5_init 6 = .ok (.putfield 9, 3) := by decide +kernel
theorem dX5_init_9 : decode cX5_init 9 = .ok (.aload_n 0, 1) := by decide +kernel
theorem dX5_init_10 : decode cX5_init 10 = .ok (.new 15, 3) := by decide +kernel
theorem dX5_init_13 : decode cX5_init 13 = .ok (.dup, 1) := by decide +kernel
theorem dX5_init_14 : decode cX5_init 14 = .ok (.invokespecial 17, 3) := by decide +kernel
theorem dX5_init_17 : decode cX5_init 17 = .ok (.putfield 18, 3) := by decide +kernel
theorem dX5_init_20 : decode cX5_init 20 = .ok (.aload_n 0, 1) := by decide +kernel
theorem dX5_init_21 : decode cX5_init 21 = .ok (.new 22, 3) := by decide +kernel
theorem dX5_init_24 : decode cX5_init 24 = .ok (.dup, 1) := by decide +kernel
theorem dX5_init_25 : decode cX5_init 25 = .ok (.invokespecial 24, 3) := by decide +kernel
theorem dX5_init_28 : decode cX5_init 28 = .ok (.putfield 25, 3) := by decide +kernel
theorem dX5_init_31 : decode cX5_init 31 = .ok (.return_, 1) := by decide +kernel
set_option maxRecDepth 20000 in
theorem ggX5_copyFrom_X4_copyFrom : GoodIn wsX5_copyFrom wsX4_copyFrom := goodIn_r _ [15, 16, 17, 18, 19, 20, 21, 22, 23, 24, 25, 26, 27, 28, 52, 53, 54, 55, 56, 57, 58, 59, 60] (by decide +kernel) (by decide +kernel)
set_option maxRecDepth 20000 in
theorem gX5_copyFrom_X4_copyFrom : GoodIn wsX5_copyFrom (wsV RX5 29 RX4 yX4_copyFrom wsX4_copyFrom) := goodIn_app (goodIn_of _ (by decide +kernel)) ggX5_copyFrom_X4_copyFrom
set_option maxRecDepth 20000 in
theorem ggX5_copyFrom_X2_copyFrom : GoodIn wsX5_copyFrom wsX2_copyFrom := goodIn_r _ [33, 34, 35, 18, 19, 20, 36, 37, 38, 39, 40, 61, 62, 63, 64, 65, 66] (by decide +kernel) (by decide +kernel)
set_option maxRecDepth 20000 in
theorem gX5_copyFrom_X2_copyFrom : GoodIn wsX5_copyFrom (wsV RX5 33 RX2 yX2_copyFrom wsX2_copyFrom) := goodIn_app (goodIn_of _ (by decide +kernel)) ggX5_copyFrom_X2_copyFrom
theorem dX5_copyFrom_0 : decode cX5_copyFrom 0 = .ok (.aload_n 0, 1) := by decide +kernel
theorem dX5_copyFrom_1 : decode cX5_copyFrom 1 = .ok (.getfield 18, 3) := by decide +kernel
theorem dX5_copyFrom_4 : decode cX5_copyFrom 4 = .ok (.aload_n 1, 1) := by decide +kernel
theorem dX5_copyFrom_5 : decode cX5_copyFrom 5 = .ok (.getfield 18, 3) := by decide +kernel
theorem dX5_copyFrom_8 : decode cX5_copyFrom 8 = .ok (.invokevirtual 29, 3) := by decide +kernel
theorem dX5_copyFrom_11 : decode cX5_copyFrom 11 = .ok (.aload_n 0, 1) := by decide +kernel
theorem dX5_copyFrom_12 : decode cX5_copyFrom 12 = .ok (.getfield 25, 3) := by decide +kernel
theorem dX5_copyFrom_15 : decode cX5_copyFrom 15 = .ok (.aload_n 1, 1) := by decide +kernel
theorem dX5_copyFrom_16 : decode cX5_copyFrom 16 = .ok (.getfield 25, 3) := by decide +kernel
theorem dX5_copyFrom_19 : decode cX5_copyFrom 19 = .ok (.invokevirtual 33, 3) := by decide +kernel
theorem dX5_copyFrom_22 : decode cX5_copyFrom 22 = .ok (.aload_n 0, 1) := by decide +kernel
theorem dX5_copyFrom_23 : decode cX5_copyFrom 23 = .ok (.aload_n 1, 1) := by decide +kernel
theorem dX5_copyFrom_24 : decode cX5_copyFrom 24 = .ok (.getfield 36, 3) := by decide +kernel
theorem dX5_copyFrom_27 : decode cX5_copyFrom 27 = .ok (.putfield 36, 3) := by decide +kernel
theorem dX5_copyFrom_30 : decode cX5_copyFrom 30 = .ok (.aload_n 0, 1) := by decide +kernel
theorem dX5_copyFrom_31 : decode cX5_copyFrom 31 = .ok (.aload_n 1, 1) := by decide +kernel
theorem dX5_copyFrom_32 : decode cX5_copyFrom 32 = .ok (.getfield 40, 3) := by decide +kernel
theorem dX5_copyFrom_35 : decode cX5_copyFrom 35 = .ok (.putfield 40, 3) := by decide +kernel
theorem dX5_copyFrom_38 : decode cX5_copyFrom 38 = .ok (.aload_n 0, 1) := by decide +kernel
theorem dX5_copyFrom_39 : decode cX5_copyFrom 39 = .ok (.aload_n 1, 1) := by decide +kernel
theorem dX5_copyFrom_40 : decode cX5_copyFrom 40 = .ok (.getfield 43, 3) := by decide +kernel
theorem dX5_copyFrom_43 : decode cX5_copyFrom 43 = .ok (.putfield 43, 3) := by decide +kernel
theorem dX5_copyFrom_46 : decode cX5_copyFrom 46 = .ok (.aload_n 0, 1) := by decide +kernel
theorem dX5_copyFrom_47 : decode cX5_copyFrom 47 = .ok (.aload_n 1, 1) := by decide +kernel
theorem dX5_copyFrom_48 : decode cX5_copyFrom 48 = .ok (.getfield 46, 3) := by decide +kernel
theorem dX5_copyFrom_51 : decode cX5_copyFrom 51 = .ok (.putfield 46, 3) := by decide +kernel
theorem dX5_copyFrom_54 : decode cX5_copyFrom 54 = .ok (.aload_n 0, 1) := by decide +kernel
theorem dX5_copyFrom_55 : decode cX5_copyFrom 55 = .ok (.aload_n 1, 1) := by decide +kernel
theorem dX5_copyFrom_56 : decode cX5_copyFrom 56 = .ok (.getfield 49, 3) := by decide +kernel
theorem dX5_copyFrom_59 : decode cX5_copyFrom 59 = .ok (.putfield 49, 3) := by decide +kernel
theorem dX5_copyFrom_62 : decode cX5_copyFrom 62 = .ok (.aload_n 0, 1) := by decide +kernel
theorem dX5_copyFrom_63 : decode cX5_copyFrom 63 = .ok (.aload_n 1, 1) := by decide +kernel
theorem dX5_copyFrom_64 : decode cX5_copyFrom 64 = .ok (.getfield 52, 3) := by decide +kernel
theorem dX5_copyFrom_67 : decode cX5_copyFrom 67 = .ok (.putfield 52, 3) := by decide +kernel
theorem dX5_copyFrom_70 : decode cX5_copyFrom 70 = .ok (.aload_n 0, 1) := by decide +kernel
theorem dX5_copyFrom_71 : decode cX5_copyFrom 71 = .ok (.aload_n 1, 1) := by decide +kernel
theorem dX5_copyFrom_72 : decode cX5_copyFrom 72 = .ok (.getfield 55, 3) := by decide +kernel
theorem dX5_copyFrom_75 : decode cX5_copyFrom 75 = .ok (.putfield 55, 3) := by decide +kernel
theorem dX5_copyFrom_78 : decode cX5_copyFrom 78 = .ok (.aload_n 0, 1) := by decide +kernel
theorem dX5_copyFrom_79 : decode cX5_copyFrom 79 = .ok (.aload_n 1, 1) := by decide +kernel
theorem dX5_copyFrom_80 : decode cX5_copyFrom 80 = .ok (.getfield 58, 3) := by decide +kernel
theorem dX5_copyFrom_83 : decode cX5_copyFrom 83 = .ok (.putfield 58, 3) := by decide +kernel
theorem dX5_copyFrom_86 : decode cX5_copyFrom 86 = .ok (.return_, 1) := by decide +kernel
set_option maxRecDepth 20000 in
theorem ggX5_putStreet_X6_isJunction : GoodIn wsX5_putStreet wsX6_isJunction := goodIn_r _ [11] (by decide +kernel) (by decide +kernel)
set_option maxRecDepth 20000 in
theorem gX5_putStreet_X6_isJunction_n61 : GoodIn wsX5_putStreet (wsX6_isJunction) := ggX5_putStreet_X6_isJunction
set_option maxRecDepth 20000 in
theorem ggX5_putStreet_X4_areConnected : GoodIn wsX5_putStreet wsX4_areConnected := goodIn_ca (goodIn_r _ [16, 17, 18, 19, 41, 42, 43, 44, 45, 46, 47, 48, 49] (by decide +kernel) (by decide +kernel)) (goodIn_sub (fun _ h => List.mem_cons_of_mem _ (List.mem_append_right _ h)) (by decide +kernel))
set_option maxRecDepth 20000 in
theorem gX5_putStreet_X4_areConnected : GoodIn wsX5_putStreet (wsV RX5 74 RX4 yX4_areConnected wsX4_areConnected) := goodIn_app (goodIn_of _ (by decide +kernel)) ggX5_putStreet_X4_areConnected
set_option maxRecDepth 20000 in
theorem ggX5_putStreet_X4_put : GoodIn wsX5_putStreet wsX4_put := goodIn_ca (goodIn_r _ [23, 17, 18, 19, 24, 25, 26, 27, 28, 29, 41, 42, 43, 44, 45, 46, 47, 48, 49] (by decide +kernel) (by decide +kernel)) (goodIn_sub (fun _ h => List.mem_cons_of_mem _ (List.mem_append_right _ h)) (by decide +kernel))
set_option maxRecDepth 20000 in
theorem gX5_putStreet_X4_put : GoodIn wsX5_putStreet (wsV RX5 78 RX4 yX4_put wsX4_put) := goodIn_app (goodIn_of _ (by decide +kernel)) ggX5_putStreet_X4_put
theorem dX5_putStreet_0 : decode cX5_putStreet 0 = .ok (.iload_n 1, 1) := by decide +kernel
theorem dX5_putStreet_1 : decode cX5_putStreet 1 = .ok (.invokestatic 61, 3) := by decide +kernel
theorem dX5_putStreet_4 : decode cX5_putStreet 4 = .ok (.ifCond .eq 10, 3) := by decide +kernel
theorem dX5_putStreet_7 : decode cX5_putStreet 7 = .ok (.iload_n 2, 1) := by decide +kernel
theorem dX5_putStreet_8 : decode cX5_putStreet 8 = .ok (.invokestatic 61, 3) := by decide +kernel
theorem dX5_putStreet_11 : decode cX5_putStreet 11 = .ok (.ifCond .ne 5, 3) := by decide +kernel
theorem dX5_putStreet_14 : decode cX5_putStreet 14 = .ok (.iconst (-1), 1) := by decide +kernel
theorem dX5_putStreet_15 : decode cX5_putStreet 15 = .ok (.ireturn, 1) := by decide +kernel
theorem dX5_putStreet_16 : decode cX5_putStreet 16 = .ok (.iload_n 1, 1) := by decide +kernel
theorem dX5_putStreet_17 : decode cX5_putStreet 17 = .ok (.iload_n 2, 1) := by decide +kernel
theorem dX5_putStreet_18 : decode cX5_putStreet 18 = .ok (.if_icmp .eq 28, 3) := by decide +kernel
theorem dX5_putStreet_21 : decode cX5_putStreet 21 = .ok (.iload_n 3, 1) := by decide +kernel
theorem dX5_putStreet_22 : decode cX5_putStreet 22 = .ok (.bipush 97, 2) := by decide +kernel
theorem dX5_putStreet_24 : decode cX5_putStreet 24 = .ok (.if_icmp .lt 22, 3) := by decide +kernel
theorem dX5_putStreet_27 : decode cX5_putStreet 27 = .ok (.iload_n 3, 1) := by decide +kernel
theorem dX5_putStreet_28 : decode cX5_putStreet 28 = .ok (.bipush 99, 2) := by decide +kernel
theorem dX5_putStreet_30 : decode cX5_putStreet 30 = .ok (.if_icmp .gt 16, 3) := by decide +kernel
theorem dX5_putStreet_33 : decode cX5_putStreet 33 = .ok (.iload 4, 2) := by decide +kernel
theorem dX5_putStreet_35 : decode cX5_putStreet 35 = .ok (.iconst 1, 1) := by decide +kernel
theorem dX5_putStreet_36 : decode cX5_putStreet 36 = .ok (.if_icmp .lt 10, 3) := by decide +kernel
theorem dX5_putStreet_39 : decode cX5_putStreet 39 = .ok (.iload 4, 2) := by decide +kernel
theorem dX5_putStreet_41 : decode cX5_putStreet 41 = .ok (.bipush 9, 2) := by decide +kernel
theorem dX5_putStreet_43 : decode cX5_putStreet 43 = .ok (.if_icmp .le 6, 3) := by decide +kernel
theorem dX5_putStreet_46 : decode cX5_putStreet 46 = .ok (.bipush (-2), 2) := by decide +kernel
theorem dX5_putStreet_48 : decode cX5_putStreet 48 = .ok (.ireturn, 1) := by decide +kernel
theorem dX5_putStreet_49 : decode cX5_putStreet 49 = .ok (.iload_n 1, 1) := by decide +kernel
theorem dX5_putStreet_50 : decode cX5_putStreet 50 = .ok (.iload_n 2, 1) := by decide +kernel
theorem dX5_putStreet_51 : decode cX5_putStreet 51 = .ok (.invokestatic 65, 3) := by decide +kernel
theorem dX5_putStreet_54 : decode cX5_putStreet 54 = .ok (.istore 5, 2) := by decide +kernel
theorem dX5_putStreet_56 : decode cX5_putStreet 56 = .ok (.iload_n 1, 1) := by decide +kernel
theorem dX5_putStreet_57 : decode cX5_putStreet 57 = .ok (.iload_n 2, 1) := by decide +kernel
theorem dX5_putStreet_58 : decode cX5_putStreet 58 = .ok (.invokestatic 71, 3) := by decide +kernel
theorem dX5_putStreet_61 : decode cX5_putStreet 61 = .ok (.istore 6, 2) := by decide +kernel
theorem dX5_putStreet_63 : decode cX5_putStreet 63 = .ok (.aload_n 0, 1) := by decide +kernel
theorem dX5_putStreet_64 : decode cX5_putStreet 64 = .ok (.getfield 18, 3) := by decide +kernel
theorem dX5_putStreet_67 : decode cX5_putStreet 67 = .ok (.iload 5, 2) := by decide +kernel
theorem dX5_putStreet_69 : decode cX5_putStreet 69 = .ok (.iload 6, 2) := by decide +kernel
theorem dX5_putStreet_71 : decode cX5_putStreet 71 = .ok (.invokevirtual 74, 3) := by decide +kernel
theorem dX5_putStreet_74 : decode cX5_putStreet 74 = .ok (.ifCond .eq 6, 3) := by decide +kernel
theorem dX5_putStreet_77 : decode cX5_putStreet 77 = .ok (.bipush (-4), 2) := by decide +kernel
theorem dX5_putStreet_79 : decode cX5_putStreet 79 = .ok (.ireturn, 1) := by decide +kernel
theorem dX5_putStreet_80 : decode cX5_putStreet 80 = .ok (.aload_n 0, 1) := by decide +kernel
theorem dX5_putStreet_81 : decode cX5_putStreet 81 = .ok (.getfield 18, 3) := by decide +kernel
theorem dX5_putStreet_84 : decode cX5_putStreet 84 = .ok (.iload 5, 2) := by decide +kernel
theorem dX5_putStreet_86 : decode cX5_putStreet 86 = .ok (.iload 6, 2) := by decide +kernel
theorem dX5_putStreet_88 : decode cX5_putStreet 88 = .ok (.iload_n 3, 1) := by decide +kernel
theorem dX5_putStreet_89 : decode cX5_putStreet 89 = .ok (.iload 4, 2) := by decide +kernel
theorem dX5_putStreet_91 : decode cX5_putStreet 91 = .ok (.invokevirtual 78, 3) := by decide +kernel
theorem dX5_putStreet_94 : decode cX5_putStreet 94 = .ok (.ireturn, 1) := by decide +kernel
set_option maxRecDepth 20000 in
theorem ggX5_putPlough_X6_isJunction : GoodIn wsX5_putPlough wsX6_isJunction := goodIn_r _ [4] (by decide +kernel) (by decide +kernel)
set_option maxRecDepth 20000 in
theorem gX5_putPlough_X6_isJunction_n61 : GoodIn wsX5_putPlough (wsX6_isJunction) := ggX5_putPlough_X6_isJunction
set_option maxRecDepth 20000 in
theorem ggX5_putPlough_X2_put : GoodIn wsX5_putPlough wsX2_put := goodIn_ca (goodIn_r _ [9, 10, 11, 12, 13, 14, 26, 27, 28, 29, 30, 31] (by decide +kernel) (by decide +kernel)) (goodIn_sub (fun _ h => List.mem_cons_of_mem _ (List.mem_append_right _ h)) (by decide +kernel))
set_option maxRecDepth 20000 in
theorem gX5_putPlough_X2_put : GoodIn wsX5_putPlough (wsV RX5 82 RX2 yX2_put wsX2_put) := goodIn_app (goodIn_of _ (by decide +kernel)) ggX5_putPlough_X2_put
theorem dX5_putPlough_0 : decode cX5_putPlough 0 = .ok (.iload_n 1, 1) := by decide +kernel
theorem dX5_putPlough_1 : decode cX5_putPlough 1 = .ok (.invokestatic 61, 3) := by decide +kernel
theorem dX5_putPlough_4 : decode cX5_putPlough 4 = .ok (.ifCond .eq 14, 3) := by decide +kernel
theorem dX5_putPlough_7 : decode cX5_putPlough 7 = .ok (.aload_n 0, 1) := by decide +kernel
theorem dX5_putPlough_8 : decode cX5_putPlough 8 = .ok (.getfield 25, 3) := by decide +kernel
theorem dX5_putPlough_11 : decode cX5_putPlough 11 = .ok (.iload_n 1, 1) := by decide +kernel
theorem dX5_putPlough_12 : decode cX5_putPlough 12 = .ok (.invokevirtual 82, 3) := by decide +kernel
theorem dX5_putPlough_15 : decode cX5_putPlough 15 = .ok (.goto 4, 3) := by decide +kernel
theorem dX5_putPlough_18 : decode cX5_putPlough 18 = .ok (.iconst (-1), 1) := by decide +kernel
theorem dX5_putPlough_19 : decode cX5_putPlough 19 = .ok (.ireturn, 1) := by decide +kernel
set_option maxRecDepth 20000 in
theorem ggX5_appendOrder_X4_has : GoodIn wsX5_appendOrder wsX4_has := goodIn_r _ [7, 8, 32, 33, 34, 35, 36, 37, 38, 39, 40] (by decide +kernel) (by decide +kernel)
set_option maxRecDepth 20000 in
theorem gX5_appendOrder_X4_has : GoodIn wsX5_appendOrder (wsV RX5 85 RX4 yX4_has wsX4_has) := goodIn_app (goodIn_of _ (by decide +kernel)) ggX5_appendOrder_X4_has
set_option maxRecDepth 20000 in
theorem ggX5_appendOrder_X2_append : GoodIn wsX5_appendOrder wsX2_append := goodIn_ca (goodIn_r _ [13, 14, 15, 16, 17, 18, 12, 19, 20, 41, 42, 43, 44, 45, 46] (by decide +kernel) (by decide +kernel)) (goodIn_sub (fun _ h => List.mem_cons_of_mem _ (List.mem_append_right _ h)) (by decide +kernel))
set_option maxRecDepth 20000 in
theorem gX5_appendOrder_X2_append : GoodIn wsX5_appendOrder (wsV RX5 88 RX2 yX2_append wsX2_append) := goodIn_app (goodIn_of _ (by decide +kernel)) ggX5_appendOrder_X2_append
theorem dX5_appendOrder_0 : decode cX5_appendOrder 0 = .ok (.aload_n 0, 1) := by decide +kernel
theorem dX5_appendOrder_1 : decode cX5_appendOrder 1 = .ok (.getfield 18, 3) := by decide +kernel
theorem dX5_appendOrder_4 : decode cX5_appendOrder 4 = .ok (.iload_n 2, 1) := by decide +kernel
theorem dX5_appendOrder_5 : decode cX5_appendOrder 5 = .ok (.invokevirtual 85, 3) := by decide +kernel
theorem dX5_appendOrder_8 : decode cX5_appendOrder 8 = .ok (.ifCond .eq 15, 3) := by decide +kernel
theorem dX5_appendOrder_11 : decode cX5_appendOrder 11 = .ok (.aload_n 0, 1) := by decide +kernel
theorem dX5_appendOrder_12 : decode cX5_appendOrder 12 = .ok (.getfield 25, 3) := by decide +kernel
theorem dX5_appendOrder_15 : decode cX5_appendOrder 15 = .ok (.iload_n 1, 1) := by decide +kernel
theorem dX5_appendOrder_16 : decode cX5_appendOrder 16 = .ok (.iload_n 2, 1) := by decide +kernel
theorem dX5_appendOrder_17 : decode cX5_appendOrder 17 = .ok (.invokevirtual 88, 3) := by decide +kernel
theorem dX5_appendOrder_20 : decode cX5_appendOrder 20 = .ok (.goto 4, 3) := by decide +kernel
theorem dX5_appendOrder_23 : decode cX5_appendOrder 23 = .ok (.iconst (-1), 1) := by decide +kernel
theorem dX5_appendOrder_24 : decode cX5_appendOrder 24 = .ok (.ireturn, 1) := by decide +kernel
set_option maxRecDepth 20000 in
theorem ggX5_removeOrder_X2_removeLast : GoodIn wsX5_removeOrder wsX2_removeLast := goodIn_ca (goodIn_r _ [6, 7, 8, 9, 10, 5, 11, 12, 13, 14, 15, 16, 17, 29, 30, 31, 32, 33, 34] (by decide +kernel) (by decide +kernel)) (goodIn_sub (fun _ h => List.mem_cons_of_mem _ (List.mem_append_right _ h)) (by decide +kernel))
set_option maxRecDepth 20000 in
theorem gX5_removeOrder_X2_removeLast : GoodIn wsX5_removeOrder (wsV RX5 91 RX2 yX2_removeLast wsX2_removeLast) := goodIn_app (goodIn_of _ (by decide +kernel)) ggX5_removeOrder_X2_removeLast
theorem dX5_removeOrder_0 : decode cX5_removeOrder 0 = .ok (.aload_n 0, 1) := by decide +kernel
theorem dX5_removeOrder_1 : decode cX5_removeOrder 1 = .ok (.getfield 25, 3) := by decide +kernel
theorem dX5_removeOrder_4 : decode cX5_removeOrder 4 = .ok (.iload_n 1, 1) := by decide +kernel
theorem dX5_removeOrder_5 : decode cX5_removeOrder 5 = .ok (.invokevirtual 91, 3) := by decide +kernel
theorem dX5_removeOrder_8 : decode cX5_removeOrder 8 = .ok (.ireturn, 1) := by decide +kernel
set_option maxRecDepth 20000 in
theorem ggX5_spreadSalt_X4_has : GoodIn wsX5_spreadSalt wsX4_has := goodIn_r _ [10, 11, 29, 30, 31, 32, 33, 34, 35, 36, 37] (by decide +kernel) (by decide +kernel)
set_option maxRecDepth 20000 in
theorem gX5_spreadSalt_X4_has : GoodIn wsX5_spreadSalt (wsV RX5 85 RX4 yX4_has wsX4_has) := goodIn_app (goodIn_of _ (by decide +kernel)) ggX5_spreadSalt_X4_has
set_option maxRecDepth 20000 in
theorem ggX5_spreadSalt_X4_saltLeft : GoodIn wsX5_spreadSalt wsX4_saltLeft := goodIn_ca (goodIn_r _ [15, 16, 17, 7, 8, 9, 10, 11, 29, 30, 31, 32, 33, 34, 35, 36, 37] (by decide +kernel) (by decide +kernel)) (goodIn_sub (fun _ h => List.mem_cons_of_mem _ (List.mem_append_right _ h)) (by decide +kernel))
set_option maxRecDepth 20000 in
theorem gX5_spreadSalt_X4_saltLeft : GoodIn wsX5_spreadSalt (wsV RX5 94 RX4 yX4_saltLeft wsX4_saltLeft) := goodIn_app (goodIn_of _ (by decide +kernel)) ggX5_spreadSalt_X4_saltLeft
theorem dX5_spreadSalt_0 : decode cX5_spreadSalt 0 = .ok (.aload_n 0, 1) := by decide +kernel
theorem dX5_spreadSalt_1 : decode cX5_spreadSalt 1 = .ok (.getfield 18, 3) := by decide +kernel
theorem dX5_spreadSalt_4 : decode cX5_spreadSalt 4 = .ok (.iload_n 1, 1) := by decide +kernel
theorem dX5_spreadSalt_5 : decode cX5_spreadSalt 5 = .ok (.invokevirtual 85, 3) := by decide +kernel
theorem dX5_spreadSalt_8 : decode cX5_spreadSalt 8 = .ok (.ifCond .ne 5, 3) := by decide +kernel
theorem dX5_spreadSalt_11 : decode cX5_spreadSalt 11 = .ok (.iconst (-1), 1) := by decide +kernel
theorem dX5_spreadSalt_12 : decode cX5_spreadSalt 12 = .ok (.ireturn, 1) := by decide +kernel
theorem dX5_spreadSalt_13 : decode cX5_spreadSalt 13 = .ok (.aload_n 0, 1) := by decide +kernel
theorem dX5_spreadSalt_14 : decode cX5_spreadSalt 14 = .ok (.getfield 18, 3) := by decide +kernel
theorem dX5_spreadSalt_17 : decode cX5_spreadSalt 17 = .ok (.iload_n 1, 1) := by decide +kernel
theorem dX5_spreadSalt_18 : decode cX5_spreadSalt 18 = .ok (.aload_n 0, 1) := by decide +kernel
theorem dX5_spreadSalt_19 : decode cX5_spreadSalt 19 = .ok (.getfield 36, 3) := by decide +kernel
theorem dX5_spreadSalt_22 : decode cX5_spreadSalt 22 = .ok (.invokevirtual 94, 3) := by decide +kernel
theorem dX5_spreadSalt_25 : decode cX5_spreadSalt 25 = .ok (.ifCond .le 6, 3) := by decide +kernel
theorem dX5_spreadSalt_28 : decode cX5_spreadSalt 28 = .ok (.bipush (-3), 2) := by decide +kernel
theorem dX5_spreadSalt_30 : decode cX5_spreadSalt 30 = .ok (.ireturn, 1) := by decide +kernel
theorem dX5_spreadSalt_31 : decode cX5_spreadSalt 31 = .ok (.aload_n 0, 1) := by decide +kernel
theorem dX5_spreadSalt_32 : decode cX5_spreadSalt 32 = .ok (.getfield 40, 3) := by decide +kernel
theorem dX5_spreadSalt_35 : decode cX5_spreadSalt 35 = .ok (.aload_n 0, 1) := by decide +kernel
theorem dX5_spreadSalt_36 : decode cX5_spreadSalt 36 = .ok (.getfield 18, 3) := by decide +kernel
theorem dX5_spreadSalt_39 : decode cX5_spreadSalt 39 = .ok (.getfield 97, 3) := by decide +kernel
theorem dX5_spreadSalt_42 : decode cX5_spreadSalt 42 = .ok (.iload_n 1, 1) := by decide +kernel
theorem dX5_spreadSalt_43 : decode cX5_spreadSalt 43 = .ok (.iaload, 1) := by decide +kernel
theorem dX5_spreadSalt_44 : decode cX5_spreadSalt 44 = .ok (.if_icmp .ge 6, 3) := by decide +kernel
theorem dX5_spreadSalt_47 : decode cX5_spreadSalt 47 = .ok (.bipush (-4), 2) := by decide +kernel
theorem dX5_spreadSalt_49 : decode cX5_spreadSalt 49 = .ok (.ireturn, 1) := by decide +kernel
theorem dX5_spreadSalt_50 : decode cX5_spreadSalt 50 = .ok (.aload_n 0, 1) := by decide +kernel
theorem dX5_spreadSalt_51 : decode cX5_spreadSalt 51 = .ok (.dup, 1) := by decide +kernel
theorem dX5_spreadSalt_52 : decode cX5_spreadSalt 52 = .ok (.getfield 40, 3) := by decide +kernel
theorem dX5_spreadSalt_55 : decode cX5_spreadSalt 55 = .ok (.aload_n 0, 1) := by decide +kernel
theorem dX5_spreadSalt_56 : decode cX5_spreadSalt 56 = .ok (.getfield 18, 3) := by decide +kernel
theorem dX5_spreadSalt_59 : decode cX5_spreadSalt 59 = .ok (.getfield 97, 3) := by decide +kernel
theorem dX5_spreadSalt_62 : decode cX5_spreadSalt 62 = .ok (.iload_n 1, 1) := by decide +kernel
theorem dX5_spreadSalt_63 : decode cX5_spreadSalt 63 = .ok (.iaload, 1) := by decide +kernel
theorem dX5_spreadSalt_64 : decode cX5_spreadSalt 64 = .ok (.isub, 1) := by decide +kernel
theorem dX5_spreadSalt_65 : decode cX5_spreadSalt 65 = .ok (.putfield 40, 3) := by decide +kernel
theorem dX5_spreadSalt_68 : decode cX5_spreadSalt 68 = .ok (.aload_n 0, 1) := by decide +kernel
theorem dX5_spreadSalt_69 : decode cX5_spreadSalt 69 = .ok (.getfield 18, 3) := by decide +kernel
theorem dX5_spreadSalt_72 : decode cX5_spreadSalt 72 = .ok (.getfield 101, 3) := by decide +kernel
theorem dX5_spreadSalt_75 : decode cX5_spreadSalt 75 = .ok (.iload_n 1, 1) := by decide +kernel
theorem dX5_spreadSalt_76 : decode cX5_spreadSalt 76 = .ok (.aload_n 0, 1) := by decide +kernel
theorem dX5_spreadSalt_77 : decode cX5_spreadSalt 77 = .ok (.getfield 36, 3) := by decide +kernel
theorem dX5_spreadSalt_80 : decode cX5_spreadSalt 80 = .ok (.sipush 240, 3) := by decide +kernel
theorem dX5_spreadSalt_83 : decode cX5_spreadSalt 83 = .ok (.iadd, 1) := by decide +kernel
theorem dX5_spreadSalt_84 : decode cX5_spreadSalt 84 = .ok (.iastore, 1) := by decide +kernel
theorem dX5_spreadSalt_85 : decode cX5_spreadSalt 85 = .ok (.aload_n 0, 1) := by decide +kernel
theorem dX5_spreadSalt_86 : decode cX5_spreadSalt 86 = .ok (.getfield 40, 3) := by decide +kernel
theorem dX5_spreadSalt_89 : decode cX5_spreadSalt 89 = .ok (.ireturn, 1) := by decide +kernel
theorem dX5_fillStore_0 : decode cX5_fillStore 0 = .ok (.iload_n 1, 1) := by decide +kernel
theorem dX5_fillStore_1 : decode cX5_fillStore 1 = .ok (.iconst 1, 1) := by decide +kernel
theorem dX5_fillStore_2 : decode cX5_fillStore 2 = .ok (.if_icmp .lt 10, 3) := by decide +kernel
theorem dX5_fillStore_5 : decode cX5_fillStore 5 = .ok (.iload_n 1, 1) := by decide +kernel
theorem dX5_fillStore_6 : decode cX5_fillStore 6 = .ok (.sipush 200, 3) := by decide +kernel
theorem dX5_fillStore_9 : decode cX5_fillStore 9 = .ok (.if_icmp .le 6, 3) := by decide +kernel
theorem dX5_fillStore_12 : decode cX5_fillStore 12 = .ok (.bipush (-2), 2) := by decide +kernel
theorem dX5_fillStore_14 : decode cX5_fillStore 14 = .ok (.ireturn, 1) := by decide +kernel
theorem dX5_fillStore_15 : decode cX5_fillStore 15 = .ok (.aload_n 0, 1) := by decide +kernel
theorem dX5_fillStore_16 : decode cX5_fillStore 16 = .ok (.getfield 40, 3) := by decide +kernel
theorem dX5_fillStore_19 : decode cX5_fillStore 19 = .ok (.iload_n 1, 1) := by decide +kernel
theorem dX5_fillStore_20 : decode cX5_fillStore 20 = .ok (.iadd, 1) := by decide +kernel
theorem dX5_fillStore_21 : decode cX5_fillStore 21 = .ok (.sipush 500, 3) := by decide +kernel
theorem dX5_fillStore_24 : decode cX5_fillStore 24 = .ok (.if_icmp .le 6, 3) := by decide +kernel
theorem dX5_fillStore_27 : decode cX5_fillStore 27 = .ok (.bipush (-3), 2) := by decide +kernel
theorem dX5_fillStore_29 : decode cX5_fillStore 29 = .ok (.ireturn, 1) := by decide +kernel
theorem dX5_fillStore_30 : decode cX5_fillStore 30 = .ok (.aload_n 0, 1) := by decide +kernel
theorem dX5_fillStore_31 : decode cX5_fillStore 31 = .ok (.dup, 1) := by decide +kernel
theorem dX5_fillStore_32 : decode cX5_fillStore 32 = .ok (.getfield 40, 3) := by decide +kernel
theorem dX5_fillStore_35 : decode cX5_fillStore 35 = .ok (.iload_n 1, 1) := by decide +kernel
theorem dX5_fillStore_36 : decode cX5_fillStore 36 = .ok (.iadd, 1) := by decide +kernel
theorem dX5_fillStore_37 : decode cX5_fillStore 37 = .ok (.putfield 40, 3) := by decide +kernel
theorem dX5_fillStore_40 : decode cX5_fillStore 40 = .ok (.aload_n 0, 1) := by decide +kernel
theorem dX5_fillStore_41 : decode cX5_fillStore 41 = .ok (.getfield 40, 3) := by decide +kernel
theorem dX5_fillStore_44 : decode cX5_fillStore 44 = .ok (.ireturn, 1) := by decide +kernel
theorem dX5_changeRate_0 : decode cX5_changeRate 0 = .ok (.iload_n 1, 1) := by decide +kernel
theorem dX5_changeRate_1 : decode cX5_changeRate 1 = .ok (.ifCond .lt 9, 3) := by decide +kernel
theorem dX5_changeRate_4 : decode cX5_changeRate 4 = .ok (.iload_n 1, 1) := by decide +kernel
theorem dX5_changeRate_5 : decode cX5_changeRate 5 = .ok (.bipush 9, 2) := by decide +kernel
theorem dX5_changeRate_7 : decode cX5_changeRate 7 = .ok (.if_icmp .le 6, 3) := by decide +kernel
theorem dX5_changeRate_10 : decode cX5_changeRate 10 = .ok (.bipush (-2), 2) := by decide +kernel
theorem dX5_changeRate_12 : decode cX5_changeRate 12 = .ok (.ireturn, 1) := by decide +kernel
theorem dX5_changeRate_13 : decode cX5_changeRate 13 = .ok (.aload_n 0, 1) := by decide +kernel
theorem dX5_changeRate_14 : decode cX5_changeRate 14 = .ok (.getfield 43, 3) := by decide +kernel
theorem dX5_changeRate_17 : decode cX5_changeRate 17 = .ok (.istore_n 2, 1) := by decide +kernel
theorem dX5_changeRate_18 : decode cX5_changeRate 18 = .ok (.aload_n 0, 1) := by decide +kernel
theorem dX5_changeRate_19 : decode cX5_changeRate 19 = .ok (.iload_n 1, 1) := by decide +kernel
theorem dX5_changeRate_20 : decode cX5_changeRate 20 = .ok (.putfield 43, 3) := by decide +kernel
theorem dX5_changeRate_23 : decode cX5_changeRate 23 = .ok (.iload_n 2, 1) := by decide +kernel
theorem dX5_changeRate_24 : decode cX5_changeRate 24 = .ok (.ireturn, 1) := by decide +kernel
theorem dX5_changeForce_0 : decode cX5_changeForce 0 = .ok (.iload_n 1, 1) := by decide +kernel
theorem dX5_changeForce_1 : decode cX5_changeForce 1 = .ok (.ifCond .lt 9, 3) := by decide +kernel
theorem dX5_changeForce_4 : decode cX5_changeForce 4 = .ok (.iload_n 1, 1) := by decide +kernel
theorem dX5_changeForce_5 : decode cX5_changeForce 5 = .ok (.bipush 9, 2) := by decide +kernel
theorem dX5_changeForce_7 : decode cX5_changeForce 7 = .ok (.if_icmp .le 6, 3) := by decide +kernel
theorem dX5_changeForce_10 : decode cX5_changeForce 10 = .ok (.bipush (-2), 2) := by decide +kernel
theorem dX5_changeForce_12 : decode cX5_changeForce 12 = .ok (.ireturn, 1) := by decide +kernel
theorem dX5_changeForce_13 : decode cX5_changeForce 13 = .ok (.aload_n 0, 1) := by decide +kernel
theorem dX5_changeForce_14 : decode cX5_changeForce 14 = .ok (.getfield 46, 3) := by decide +kernel
theorem dX5_changeForce_17 : decode cX5_changeForce 17 = .ok (.istore_n 2, 1) := by decide +kernel
theorem dX5_changeForce_18 : decode cX5_changeForce 18 = .ok (.aload_n 0, 1) := by decide +kernel
theorem dX5_changeForce_19 : decode cX5_changeForce 19 = .ok (.iload_n 1, 1) := by decide +kernel
theorem dX5_changeForce_20 : decode cX5_changeForce 20 = .ok (.putfield 46, 3) := by decide +kernel
theorem dX5_changeForce_23 : decode cX5_changeForce 23 = .ok (.iload_n 2, 1) := by decide +kernel
theorem dX5_changeForce_24 : decode cX5_changeForce 24 = .ok (.ireturn, 1) := by decide +kernel
set_option maxRecDepth 20000 in
theorem ggX5_passMinutes_X2_canBegin : GoodIn wsX5_passMinutes wsX2_canBegin := goodIn_ca (goodIn_r _ [9, 10, 11, 12, 13, 14, 8, 15, 16, 146, 147, 148, 149, 150, 151] (by decide +kernel) (by decide +kernel)) (goodIn_sub (fun _ h => List.mem_cons_of_mem _ (List.mem_append_right _ h)) (by decide +kernel))
set_option maxRecDepth 20000 in
theorem gX5_passMinutes_X2_canBegin : GoodIn wsX5_passMinutes (wsV RX5 107 RX2 yX2_canBegin wsX2_canBegin) := goodIn_app (goodIn_of _ (by decide +kernel)) ggX5_passMinutes_X2_canBegin
set_option maxRecDepth 20000 in
theorem ggX5_passMinutes_X5_beginOrder : GoodIn wsX5_passMinutes wsX5_beginOrder := goodIn_ca (goodIn_r _ [21, 3, 22, 23, 24, 25, 26, 27, 28, 29, 30, 8, 31, 32, 11, 33, 34, 35, 36, 12, 13, 14, 15, 16, 37, 38, 39, 20, 40, 41, 42, 43, 44, 45, 46, 47, 48, 49, 50, 51, 52, 53, 54, 55, 56, 57, 58, 59, 60, 61, 62, 63, 64, 65, 66, 67, 68, 69, 70, 71, 72, 73, 74, 75, 76, 77, 78, 79, 80, 81, 82, 83, 84, 85, 86, 10, 87, 135, 136, 137, 138, 139, 140, 141, 142, 143, 144, 145, 152, 153, 154, 155, 156, 157, 158, 159, 160, 146, 147, 148, 149, 150, 151, 161, 162, 163] (by decide +kernel) (by decide +kernel)) (goodIn_sub (fun _ h => List.mem_cons_of_mem _ (List.mem_append_right _ h)) (by decide +kernel))
set_option maxRecDepth 20000 in
theorem gX5_passMinutes_X5_beginOrder : GoodIn wsX5_passMinutes (wsV RX5 110 RX5 yX5_beginOrder wsX5_beginOrder) := goodIn_app (goodIn_of _ (by decide +kernel)) ggX5_passMinutes_X5_beginOrder
set_option maxRecDepth 20000 in
theorem ggX5_passMinutes_X2_work : GoodIn wsX5_passMinutes wsX2_work := goodIn_ca (goodIn_r _ [91, 10, 86, 12, 13, 14, 8, 15, 16, 146, 147, 148, 149, 150, 151] (by decide +kernel) (by decide +kernel)) (goodIn_sub (fun _ h => List.mem_cons_of_mem _ (List.mem_append_right _ h)) (by decide +kernel))
set_option maxRecDepth 20000 in
theorem gX5_passMinutes_X2_work : GoodIn wsX5_passMinutes (wsV RX5 114 RX2 yX2_work wsX2_work) := goodIn_app (goodIn_of _ (by decide +kernel)) ggX5_passMinutes_X2_work
set_option maxRecDepth 20000 in
theorem ggX5_passMinutes_X5_clearStreet : GoodIn wsX5_passMinutes wsX5_clearStreet := goodIn_ca (goodIn_r _ [95, 23, 96, 97, 1, 98, 48, 49, 50, 51, 52, 53, 135, 136, 137, 138, 139, 140, 141, 142, 143, 144, 145, 152, 153, 154, 155, 156, 157, 158, 159, 160] (by decide +kernel) (by decide +kernel)) (goodIn_sub (fun _ h => List.mem_cons_of_mem _ (List.mem_append_right _ h)) (by decide +kernel))
set_option maxRecDepth 20000 in
theorem gX5_passMinutes_X5_clearStreet : GoodIn wsX5_passMinutes (wsV RX5 117 RX5 yX5_clearStreet wsX5_clearStreet) := goodIn_app (goodIn_of _ (by decide +kernel)) ggX5_passMinutes_X5_clearStreet
set_option maxRecDepth 20000 in
theorem ggX5_passMinutes_X5_endHour : GoodIn wsX5_passMinutes wsX5_endHour := goodIn_ca (goodIn_r _ [102, 23, 103, 2, 104, 105, 106, 107, 108, 51, 109, 53, 110, 111, 43, 44, 45, 112, 113, 114, 115, 116, 117, 118, 119, 120, 121, 122, 123, 124, 49, 50, 52, 125, 126, 127, 128, 129, 130, 131, 132, 133, 134, 135, 136, 137, 138, 139, 140, 141, 142, 143, 144, 145, 152, 153, 154, 155, 156, 157, 158, 159, 160] (by decide +kernel) (by decide +kernel)) (goodIn_sub (fun _ h => List.mem_cons_of_mem _ (List.mem_append_right _ h)) (by decide +kernel))
set_option maxRecDepth 20000 in
theorem gX5_passMinutes_X5_endHour : GoodIn wsX5_passMinutes (wsV RX5 120 RX5 yX5_endHour wsX5_endHour) := goodIn_app (goodIn_of _ (by decide +kernel)) ggX5_passMinutes_X5_endHour
theorem dX5_passMinutes_0 : decode cX5_passMinutes 0 = .ok (.iload_n 1, 1) := by decide +kernel
theorem dX5_passMinutes_1 : decode cX5_passMinutes 1 = .ok (.iconst 1, 1) := by decide +kernel
theorem dX5_passMinutes_2 : decode cX5_passMinutes 2 = .ok (.if_icmp .lt 10, 3) := by decide +kernel
theorem dX5_passMinutes_5 : decode cX5_passMinutes 5 = .ok (.iload_n 1, 1) := by decide +kernel
theorem dX5_passMinutes_6 : decode cX5_passMinutes 6 = .ok (.sipush 600, 3) := by decide +kernel
theorem dX5_passMinutes_9 : decode cX5_passMinutes 9 = .ok (.if_icmp .le 6, 3) := by decide +kernel
theorem dX5_passMinutes_12 : decode cX5_passMinutes 12 = .ok (.bipush (-2), 2) := by decide +kernel
theorem dX5_passMinutes_14 : decode cX5_passMinutes 14 = .ok (.ireturn, 1) := by decide +kernel
theorem dX5_passMinutes_15 : decode cX5_passMinutes 15 = .ok (.aload_n 0, 1) := by decide +kernel
theorem dX5_passMinutes_16 : decode cX5_passMinutes 16 = .ok (.getfield 49, 3) := by decide +kernel
theorem dX5_passMinutes_19 : decode cX5_passMinutes 19 = .ok (.istore_n 2, 1) := by decide +kernel
theorem dX5_passMinutes_20 : decode cX5_passMinutes 20 = .ok (.iconst 0, 1) := by decide +kernel
theorem dX5_passMinutes_21 : decode cX5_passMinutes 21 = .ok (.istore_n 3, 1) := by decide +kernel
theorem dX5_passMinutes_22 : decode cX5_passMinutes 22 = .ok (.iload_n 3, 1) := by decide +kernel
theorem dX5_passMinutes_23 : decode cX5_passMinutes 23 = .ok (.iload_n 1, 1) := by decide +kernel
theorem dX5_passMinutes_24 : decode cX5_passMinutes 24 = .ok (.if_icmp .ge 85, 3) := by decide +kernel
theorem dX5_passMinutes_27 : decode cX5_passMinutes 27 = .ok (.aload_n 0, 1) := by decide +kernel
theorem dX5_passMinutes_28 : decode cX5_passMinutes 28 = .ok (.dup, 1) := by decide +kernel
theorem dX5_passMinutes_29 : decode cX5_passMinutes 29 = .ok (.getfield 36, 3) := by decide +kernel
theorem dX5_passMinutes_32 : decode cX5_passMinutes 32 = .ok (.iconst 1, 1) := by decide +kernel
theorem dX5_passMinutes_33 : decode cX5_passMinutes 33 = .ok (.iadd, 1) := by decide +kernel
theorem dX5_passMinutes_34 : decode cX5_passMinutes 34 = .ok (.putfield 36, 3) := by decide +kernel
theorem dX5_passMinutes_37 : decode cX5_passMinutes 37 = .ok (.iconst 0, 1) := by decide +kernel
theorem dX5_passMinutes_38 : decode cX5_passMinutes 38 = .ok (.istore 4, 2) := by decide +kernel
theorem dX5_passMinutes_40 : decode cX5_passMinutes 40 = .ok (.iload 4, 2) := by decide +kernel
theorem dX5_passMinutes_42 : decode cX5_passMinutes 42 = .ok (.aload_n 0, 1) := by decide +kernel
theorem dX5_passMinutes_43 : decode cX5_passMinutes 43 = .ok (.getfield 25, 3) := by decide +kernel
theorem dX5_passMinutes_46 : decode cX5_passMinutes 46 = .ok (.getfield 104, 3) := by decide +kernel
theorem dX5_passMinutes_49 : decode cX5_passMinutes 49 = .ok (.if_icmp .ge 40, 3) := by decide +kernel
theorem dX5_passMinutes_52 : decode cX5_passMinutes 52 = .ok (.aload_n 0, 1) := by decide +kernel
theorem dX5_passMinutes_53 : decode cX5_passMinutes 53 = .ok (.getfield 25, 3) := by decide +kernel
theorem dX5_passMinutes_56 : decode cX5_passMinutes 56 = .ok (.iload 4, 2) := by decide +kernel
theorem dX5_passMinutes_58 : decode cX5_passMinutes 58 = .ok (.invokevirtual 107, 3) := by decide +kernel
theorem dX5_passMinutes_61 : decode cX5_passMinutes 61 = .ok (.ifCond .eq 9, 3) := by decide +kernel
theorem dX5_passMinutes_64 : decode cX5_passMinutes 64 = .ok (.aload_n 0, 1) := by decide +kernel
theorem dX5_passMinutes_65 : decode cX5_passMinutes 65 = .ok (.iload 4, 2) := by decide +kernel
theorem dX5_passMinutes_67 : decode cX5_passMinutes 67 = .ok (.invokevirtual 110, 3) := by decide +kernel
theorem dX5_passMinutes_70 : decode cX5_passMinutes 70 = .ok (.aload_n 0, 1) := by decide +kernel
theorem dX5_passMinutes_71 : decode cX5_passMinutes 71 = .ok (.aload_n 0, 1) := by decide +kernel
theorem dX5_passMinutes_72 : decode cX5_passMinutes 72 = .ok (.getfield 25, 3) := by decide +kernel
theorem dX5_passMinutes_75 : decode cX5_passMinutes 75 = .ok (.iload 4, 2) := by decide +kernel
theorem dX5_passMinutes_77 : decode cX5_passMinutes 77 = .ok (.invokevirtual 114, 3) := by decide +kernel
theorem dX5_passMinutes_80 : decode cX5_passMinutes 80 = .ok (.invokevirtual 117, 3) := by decide +kernel
theorem dX5_passMinutes_83 : decode cX5_passMinutes 83 = .ok (.iinc 4 1, 3) := by decide +kernel
theorem dX5_passMinutes_86 : decode cX5_passMinutes 86 = .ok (.goto (-46), 3) := by decide +kernel
theorem dX5_passMinutes_89 : decode cX5_passMinutes 89 = .ok (.aload_n 0, 1) := by decide +kernel
theorem dX5_passMinutes_90 : decode cX5_passMinutes 90 = .ok (.getfield 36, 3) := by decide +kernel
theorem dX5_passMinutes_93 : decode cX5_passMinutes 93 = .ok (.bipush 60, 2) := by decide +kernel
theorem dX5_passMinutes_95 : decode cX5_passMinutes 95 = .ok (.irem, 1) := by decide +kernel
theorem dX5_passMinutes_96 : decode cX5_passMinutes 96 = .ok (.ifCond .ne 7, 3) := by decide +kernel
theorem dX5_passMinutes_99 : decode cX5_passMinutes 99 = .ok (.aload_n 0, 1) := by decide +kernel
theorem dX5_passMinutes_100 : decode cX5_passMinutes 100 = .ok (.invokevirtual 120, 3) := by decide +kernel
theorem dX5_passMinutes_103 : decode cX5_passMinutes 103 = .ok (.iinc 3 1, 3) := by decide +kernel
theorem dX5_passMinutes_106 : decode cX5_passMinutes 106 = .ok (.goto (-84), 3) := by decide +kernel
theorem dX5_passMinutes_109 : decode cX5_passMinutes 109 = .ok (.aload_n 0, 1) := by decide +kernel
theorem dX5_passMinutes_110 : decode cX5_passMinutes 110 = .ok (.getfield 49, 3) := by decide +kernel
theorem dX5_passMinutes_113 : decode cX5_passMinutes 113 = .ok (.iload_n 2, 1) := by decide +kernel
theorem dX5_passMinutes_114 : decode cX5_passMinutes 114 = .ok (.isub, 1) := by decide +kernel
theorem dX5_passMinutes_115 : decode cX5_passMinutes 115 = .ok (.ireturn, 1) := by decide +kernel
set_option maxRecDepth 20000 in
theorem ggX5_beginOrder_X2_removeFirst : GoodIn wsX5_beginOrder wsX2_removeFirst := goodIn_ca (goodIn_r _ [12, 13, 14, 15, 16, 17, 11, 18, 19, 20, 21, 22, 23, 97, 98, 99, 100, 101, 102] (by decide +kernel) (by decide +kernel)) (goodIn_sub (fun _ h => List.mem_cons_of_mem _ (List.mem_append_right _ h)) (by decide +kernel))
set_option maxRecDepth 20000 in
theorem gX5_beginOrder_X2_removeFirst : GoodIn wsX5_beginOrder (wsV RX5 123 RX2 yX2_removeFirst wsX2_removeFirst) := goodIn_app (goodIn_of _ (by decide +kernel)) ggX5_beginOrder_X2_removeFirst
set_option maxRecDepth 20000 in
theorem ggX5_beginOrder_X5_minutesFor : GoodIn wsX5_beginOrder wsX5_minutesFor := goodIn_ca (goodIn_r _ [28, 1, 3, 2, 7, 29, 5, 6, 30, 31, 32, 33, 34, 35, 20, 21, 11, 22, 23, 36, 37, 38, 39, 40, 41, 42, 43, 44, 45, 46, 47, 48, 49, 50, 51, 52, 53, 54, 55, 56, 57, 58, 59, 60, 61, 62, 63, 64, 65, 66, 67, 68, 69, 77, 78, 79, 80, 81, 82, 83, 84, 85, 86, 87, 97, 98, 99, 100, 101, 102, 88, 89, 90, 91, 92, 93, 94, 95, 96, 103, 104, 105] (by decide +kernel) (by decide +kernel)) (goodIn_sub (fun _ h => List.mem_cons_of_mem _ (List.mem_append_right _ h)) (by decide +kernel))
set_option maxRecDepth 20000 in
theorem gX5_beginOrder_X5_minutesFor : GoodIn wsX5_beginOrder (wsV RX5 126 RX5 yX5_minutesFor wsX5_minutesFor) := goodIn_app (goodIn_of _ (by decide +kernel)) ggX5_beginOrder_X5_minutesFor
set_option maxRecDepth 20000 in
theorem ggX5_beginOrder_X4_has : GoodIn wsX5_beginOrder wsX4_has := goodIn_r _ [40, 41, 88, 89, 90, 91, 92, 93, 94, 95, 96] (by decide +kernel) (by decide +kernel)
set_option maxRecDepth 20000 in
theorem gX5_beginOrder_X4_has : GoodIn wsX5_beginOrder (wsV RX5 85 RX4 yX4_has wsX4_has) := goodIn_app (goodIn_of _ (by decide +kernel)) ggX5_beginOrder_X4_has
set_option maxRecDepth 20000 in
theorem ggX5_beginOrder_X1_reachOf : GoodIn wsX5_beginOrder wsX1_reachOf := goodIn_ca (goodIn_r _ [69, 47, 48, 57, 58, 59, 103, 104, 105] (by decide +kernel) (by decide +kernel)) (goodIn_sub (fun _ h => List.mem_cons_of_mem _ (List.mem_append_right _ h)) (by decide +kernel))
set_option maxRecDepth 20000 in
theorem gX5_beginOrder_X1_reachOf : GoodIn wsX5_beginOrder (wsV RX5 136 RX1 yX1_reachOf wsX1_reachOf) := goodIn_app (goodIn_of _ (by decide +kernel)) ggX5_beginOrder_X1_reachOf
set_option maxRecDepth 20000 in
theorem ggX5_beginOrder_X2_begin : GoodIn wsX5_beginOrder wsX2_begin := goodIn_ca (goodIn_r _ [73, 74, 75, 76, 19, 20, 21, 11, 22, 23, 97, 98, 99, 100, 101, 102] (by decide +kernel) (by decide +kernel)) (goodIn_sub (fun _ h => List.mem_cons_of_mem _ (List.mem_append_right _ h)) (by decide +kernel))
set_option maxRecDepth 20000 in
theorem gX5_beginOrder_X2_begin : GoodIn wsX5_beginOrder (wsV RX5 141 RX2 yX2_begin wsX2_begin) := goodIn_app (goodIn_of _ (by decide +kernel)) ggX5_beginOrder_X2_begin
theorem dX5_beginOrder_0 : decode cX5_beginOrder 0 = .ok (.aload_n 0, 1) := by decide +kernel
theorem dX5_beginOrder_1 : decode cX5_beginOrder 1 = .ok (.getfield 25, 3) := by decide +kernel
theorem dX5_beginOrder_4 : decode cX5_beginOrder 4 = .ok (.iload_n 1, 1) := by decide +kernel
theorem dX5_beginOrder_5 : decode cX5_beginOrder 5 = .ok (.invokevirtual 123, 3) := by decide +kernel
theorem dX5_beginOrder_8 : decode cX5_beginOrder 8 = .ok (.istore_n 2, 1) := by decide +kernel
theorem dX5_beginOrder_9 : decode cX5_beginOrder 9 = .ok (.aload_n 0, 1) := by decide +kernel
theorem dX5_beginOrder_10 : decode cX5_beginOrder 10 = .ok (.iload_n 1, 1) := by decide +kernel
theorem dX5_beginOrder_11 : decode cX5_beginOrder 11 = .ok (.iload_n 2, 1) := by decide +kernel
theorem dX5_beginOrder_12 : decode cX5_beginOrder 12 = .ok (.invokevirtual 126, 3) := by decide +kernel
theorem dX5_beginOrder_15 : decode cX5_beginOrder 15 = .ok (.istore_n 3, 1) := by decide +kernel
theorem dX5_beginOrder_16 : decode cX5_beginOrder 16 = .ok (.iload_n 3, 1) := by decide +kernel
theorem dX5_beginOrder_17 : decode cX5_beginOrder 17 = .ok (.ldc 129, 2) := by decide +kernel
theorem dX5_beginOrder_19 : decode cX5_beginOrder 19 = .ok (.if_icmp .ge 14, 3) := by decide +kernel
theorem dX5_beginOrder_22 : decode cX5_beginOrder 22 = .ok (.aload_n 0, 1) := by decide +kernel
theorem dX5_beginOrder_23 : decode cX5_beginOrder 23 = .ok (.getfield 18, 3) := by decide +kernel
theorem dX5_beginOrder_26 : decode cX5_beginOrder 26 = .ok (.iload_n 2, 1) := by decide +kernel
theorem dX5_beginOrder_27 : decode cX5_beginOrder 27 = .ok (.invokevirtual 85, 3) := by decide +kernel
theorem dX5_beginOrder_30 : decode cX5_beginOrder 30 = .ok (.ifCond .ne 14, 3) := by decide +kernel
theorem dX5_beginOrder_33 : decode cX5_beginOrder 33 = .ok (.aload_n 0, 1) := by decide +kernel
theorem dX5_beginOrder_34 : decode cX5_beginOrder 34 = .ok (.dup, 1) := by decide +kernel
theorem dX5_beginOrder_35 : decode cX5_beginOrder 35 = .ok (.getfield 55, 3) := by decide +kernel
theorem dX5_beginOrder_38 : decode cX5_beginOrder 38 = .ok (.iconst 1, 1) := by decide +kernel
theorem dX5_beginOrder_39 : decode cX5_beginOrder 39 = .ok (.iadd, 1) := by decide +kernel
theorem dX5_beginOrder_40 : decode cX5_beginOrder 40 = .ok (.putfield 55, 3) := by decide +kernel
theorem dX5_beginOrder_43 : decode cX5_beginOrder 43 = .ok (.return_, 1) := by decide +kernel
theorem dX5_beginOrder_44 : decode cX5_beginOrder 44 = .ok (.aload_n 0, 1) := by decide +kernel
theorem dX5_beginOrder_45 : decode cX5_beginOrder 45 = .ok (.getfield 18, 3) := by decide +kernel
theorem dX5_beginOrder_48 : decode cX5_beginOrder 48 = .ok (.getfield 130, 3) := by decide +kernel
theorem dX5_beginOrder_51 : decode cX5_beginOrder 51 = .ok (.iload_n 2, 1) := by decide +kernel
theorem dX5_beginOrder_52 : decode cX5_beginOrder 52 = .ok (.iaload, 1) := by decide +kernel
theorem dX5_beginOrder_53 : decode cX5_beginOrder 53 = .ok (.istore 4, 2) := by decide +kernel
theorem dX5_beginOrder_55 : decode cX5_beginOrder 55 = .ok (.aload_n 0, 1) := by decide +kernel
theorem dX5_beginOrder_56 : decode cX5_beginOrder 56 = .ok (.getfield 18, 3) := by decide +kernel
theorem dX5_beginOrder_59 : decode cX5_beginOrder 59 = .ok (.getfield 133, 3) := by decide +kernel
theorem dX5_beginOrder_62 : decode cX5_beginOrder 62 = .ok (.iload_n 2, 1) := by decide +kernel
theorem dX5_beginOrder_63 : decode cX5_beginOrder 63 = .ok (.iaload, 1) := by decide +kernel
theorem dX5_beginOrder_64 : decode cX5_beginOrder 64 = .ok (.istore 5, 2) := by decide +kernel
theorem dX5_beginOrder_66 : decode cX5_beginOrder 66 = .ok (.aload_n 0, 1) := by decide +kernel
theorem dX5_beginOrder_67 : decode cX5_beginOrder 67 = .ok (.getfield 9, 3) := by decide +kernel
theorem dX5_beginOrder_70 : decode cX5_beginOrder 70 = .ok (.iload 4, 2) := by decide +kernel
theorem dX5_beginOrder_72 : decode cX5_beginOrder 72 = .ok (.invokevirtual 136, 3) := by decide +kernel
theorem dX5_beginOrder_75 : decode cX5_beginOrder 75 = .ok (.aload_n 0, 1) := by decide +kernel
theorem dX5_beginOrder_76 : decode cX5_beginOrder 76 = .ok (.getfield 9, 3) := by decide +kernel
theorem dX5_beginOrder_79 : decode cX5_beginOrder 79 = .ok (.iload 5, 2) := by decide +kernel
theorem dX5_beginOrder_81 : decode cX5_beginOrder 81 = .ok (.invokevirtual 136, 3) := by decide +kernel
theorem dX5_beginOrder_84 : decode cX5_beginOrder 84 = .ok (.if_icmp .gt 7, 3) := by decide +kernel
theorem dX5_beginOrder_87 : decode cX5_beginOrder 87 = .ok (.iconst 1, 1) := by decide +kernel
theorem dX5_beginOrder_88 : decode cX5_beginOrder 88 = .ok (.goto 4, 3) := by decide +kernel
theorem dX5_beginOrder_91 : decode cX5_beginOrder 91 = .ok (.iconst 0, 1) := by decide +kernel
theorem dX5_beginOrder_92 : decode cX5_beginOrder 92 = .ok (.istore 6, 2) := by decide +kernel
theorem dX5_beginOrder_94 : decode cX5_beginOrder 94 = .ok (.aload_n 0, 1) := by decide +kernel
theorem dX5_beginOrder_95 : decode cX5_beginOrder 95 = .ok (.getfield 25, 3) := by decide +kernel
theorem dX5_beginOrder_98 : decode cX5_beginOrder 98 = .ok (.iload_n 1, 1) := by decide +kernel
theorem dX5_beginOrder_99 : decode cX5_beginOrder 99 = .ok (.iload_n 2, 1) := by decide +kernel
theorem dX5_beginOrder_100 : decode cX5_beginOrder 100 = .ok (.iload_n 3, 1) := by decide +kernel
theorem dX5_beginOrder_101 : decode cX5_beginOrder 101 = .ok (.iload 6, 2) := by decide +kernel
theorem dX5_beginOrder_103 : decode cX5_beginOrder 103 = .ok (.ifCond .eq 8, 3) := by decide +kernel
theorem dX5_beginOrder_106 : decode cX5_beginOrder 106 = .ok (.iload 5, 2) := by decide +kernel
theorem dX5_beginOrder_108 : decode cX5_beginOrder 108 = .ok (.goto 5, 3) := by decide +kernel
theorem dX5_beginOrder_111 : decode cX5_beginOrder 111 = .ok (.iload 4, 2) := by decide +kernel
theorem dX5_beginOrder_113 : decode cX5_beginOrder 113 = .ok (.invokevirtual 141, 3) := by decide +kernel
theorem dX5_beginOrder_116 : decode cX5_beginOrder 116 = .ok (.return_, 1) := by decide +kernel
set_option maxRecDepth 20000 in
theorem ggX5_minutesFor_X2_has : GoodIn wsX5_minutesFor wsX2_has := goodIn_r _ [17, 18, 64, 65, 66, 67, 68, 69] (by decide +kernel) (by decide +kernel)
set_option maxRecDepth 20000 in
theorem gX5_minutesFor_X2_has : GoodIn wsX5_minutesFor (wsV RX5 145 RX2 yX2_has wsX2_has) := goodIn_app (goodIn_of _ (by decide +kernel)) ggX5_minutesFor_X2_has
set_option maxRecDepth 20000 in
theorem ggX5_minutesFor_X4_has : GoodIn wsX5_minutesFor wsX4_has := goodIn_r _ [23, 24, 70, 71, 72, 73, 74, 75, 76, 77, 78] (by decide +kernel) (by decide +kernel)
set_option maxRecDepth 20000 in
theorem gX5_minutesFor_X4_has : GoodIn wsX5_minutesFor (wsV RX5 85 RX4 yX4_has wsX4_has) := goodIn_app (goodIn_of _ (by decide +kernel)) ggX5_minutesFor_X4_has
set_option maxRecDepth 20000 in
theorem ggX5_minutesFor_X1_measureFrom : GoodIn wsX5_minutesFor wsX1_measureFrom := goodIn_ca (goodIn_r _ [29, 30, 31, 32, 33, 34, 35, 9, 10, 11, 36, 37, 38, 28, 39, 40, 41, 42, 43, 44, 45, 22, 46, 47, 48, 79, 80, 81, 70, 71, 72, 73, 74, 75, 76, 77, 78] (by decide +kernel) (by decide +kernel)) (goodIn_sub (fun _ h => List.mem_cons_of_mem _ (List.mem_append_right _ h)) (by decide +kernel))
set_option maxRecDepth 20000 in
theorem gX5_minutesFor_X1_measureFrom : GoodIn wsX5_minutesFor (wsV RX5 149 RX1 yX1_measureFrom wsX1_measureFrom) := goodIn_app (goodIn_of _ (by decide +kernel)) ggX5_minutesFor_X1_measureFrom
set_option maxRecDepth 20000 in
theorem ggX5_minutesFor_X1_reachOf : GoodIn wsX5_minutesFor wsX1_reachOf := goodIn_ca (goodIn_r _ [52, 30, 31, 40, 41, 42, 79, 80, 81] (by decide +kernel) (by decide +kernel)) (goodIn_sub (fun _ h => List.mem_cons_of_mem _ (List.mem_append_right _ h)) (by decide +kernel))
set_option maxRecDepth 20000 in
theorem gX5_minutesFor_X1_reachOf : GoodIn wsX5_minutesFor (wsV RX5 136 RX1 yX1_reachOf wsX1_reachOf) := goodIn_app (goodIn_of _ (by decide +kernel)) ggX5_minutesFor_X1_reachOf
theorem dX5_minutesFor_0 : decode cX5_minutesFor 0 = .ok (.aload_n 0, 1) := by decide +kernel
theorem dX5_minutesFor_1 : decode cX5_minutesFor 1 = .ok (.getfield 25, 3) := by decide +kernel
theorem dX5_minutesFor_4 : decode cX5_minutesFor 4 = .ok (.iload_n 1, 1) := by decide +kernel
theorem dX5_minutesFor_5 : decode cX5_minutesFor 5 = .ok (.invokevirtual 145, 3) := by decide +kernel
theorem dX5_minutesFor_8 : decode cX5_minutesFor 8 = .ok (.ifCond .eq 14, 3) := by decide +kernel
theorem dX5_minutesFor_11 : decode cX5_minutesFor 11 = .ok (.aload_n 0, 1) := by decide +kernel
theorem dX5_minutesFor_12 : decode cX5_minutesFor 12 = .ok (.getfield 18, 3) := by decide +kernel
theorem dX5_minutesFor_15 : decode cX5_minutesFor 15 = .ok (.iload_n 2, 1) := by decide +kernel
theorem dX5_minutesFor_16 : decode cX5_minutesFor 16 = .ok (.invokevirtual 85, 3) := by decide +kernel
theorem dX5_minutesFor_19 : decode cX5_minutesFor 19 = .ok (.ifCond .ne 6, 3) := by decide +kernel
theorem dX5_minutesFor_22 : decode cX5_minutesFor 22 = .ok (.ldc 129, 2) := by decide +kernel
theorem dX5_minutesFor_24 : decode cX5_minutesFor 24 = .ok (.ireturn, 1) := by decide +kernel
theorem dX5_minutesFor_25 : decode cX5_minutesFor 25 = .ok (.aload_n 0, 1) := by decide +kernel
theorem dX5_minutesFor_26 : decode cX5_minutesFor 26 = .ok (.getfield 9, 3) := by decide +kernel
theorem dX5_minutesFor_29 : decode cX5_minutesFor 29 = .ok (.aload_n 0, 1) := by decide +kernel
theorem dX5_minutesFor_30 : decode cX5_minutesFor 30 = .ok (.getfield 25, 3) := by decide +kernel
theorem dX5_minutesFor_33 : decode cX5_minutesFor 33 = .ok (.getfield 146, 3) := by decide +kernel
theorem dX5_minutesFor_36 : decode cX5_minutesFor 36 = .ok (.iload_n 1, 1) := by decide +kernel
theorem dX5_minutesFor_37 : decode cX5_minutesFor 37 = .ok (.iaload, 1) := by decide +kernel
theorem dX5_minutesFor_38 : decode cX5_minutesFor 38 = .ok (.aload_n 0, 1) := by decide +kernel
theorem dX5_minutesFor_39 : decode cX5_minutesFor 39 = .ok (.getfield 18, 3) := by decide +kernel
theorem dX5_minutesFor_42 : decode cX5_minutesFor 42 = .ok (.invokevirtual 149, 3) := by decide +kernel
theorem dX5_minutesFor_45 : decode cX5_minutesFor 45 = .ok (.aload_n 0, 1) := by decide +kernel
theorem dX5_minutesFor_46 : decode cX5_minutesFor 46 = .ok (.getfield 9, 3) := by decide +kernel
theorem dX5_minutesFor_49 : decode cX5_minutesFor 49 = .ok (.aload_n 0, 1) := by decide +kernel
theorem dX5_minutesFor_50 : decode cX5_minutesFor 50 = .ok (.getfield 18, 3) := by decide +kernel
theorem dX5_minutesFor_53 : decode cX5_minutesFor 53 = .ok (.getfield 130, 3) := by decide +kernel
theorem dX5_minutesFor_56 : decode cX5_minutesFor 56 = .ok (.iload_n 2, 1) := by decide +kernel
theorem dX5_minutesFor_57 : decode cX5_minutesFor 57 = .ok (.iaload, 1) := by decide +kernel
theorem dX5_minutesFor_58 : decode cX5_minutesFor 58 = .ok (.invokevirtual 136, 3) := by decide +kernel
theorem dX5_minutesFor_61 : decode cX5_minutesFor 61 = .ok (.aload_n 0, 1) := by decide +kernel
theorem dX5_minutesFor_62 : decode cX5_minutesFor 62 = .ok (.getfield 9, 3) := by decide +kernel
theorem dX5_minutesFor_65 : decode cX5_minutesFor 65 = .ok (.aload_n 0, 1) := by decide +kernel
theorem dX5_minutesFor_66 : decode cX5_minutesFor 66 = .ok (.getfield 18, 3) := by decide +kernel
theorem dX5_minutesFor_69 : decode cX5_minutesFor 69 = .ok (.getfield 133, 3) := by decide +kernel
theorem dX5_minutesFor_72 : decode cX5_minutesFor 72 = .ok (.iload_n 2, 1) := by decide +kernel
theorem dX5_minutesFor_73 : decode cX5_minutesFor 73 = .ok (.iaload, 1) := by decide +kernel
theorem dX5_minutesFor_74 : decode cX5_minutesFor 74 = .ok (.invokevirtual 136, 3) := by decide +kernel
theorem dX5_minutesFor_77 : decode cX5_minutesFor 77 = .ok (.invokestatic 65, 3) := by decide +kernel
theorem dX5_minutesFor_80 : decode cX5_minutesFor 80 = .ok (.istore_n 3, 1) := by decide +kernel
theorem dX5_minutesFor_81 : decode cX5_minutesFor 81 = .ok (.iload_n 3, 1) := by decide +kernel
theorem dX5_minutesFor_82 : decode cX5_minutesFor 82 = .ok (.ldc 129, 2) := by decide +kernel
theorem dX5_minutesFor_84 : decode cX5_minutesFor 84 = .ok (.if_icmp .lt 6, 3) := by decide +kernel
theorem dX5_minutesFor_87 : decode cX5_minutesFor 87 = .ok (.ldc 129, 2) := by decide +kernel
theorem dX5_minutesFor_89 : decode cX5_minutesFor 89 = .ok (.ireturn, 1) := by decide +kernel
theorem dX5_minutesFor_90 : decode cX5_minutesFor 90 = .ok (.iconst 2, 1) := by decide +kernel
theorem dX5_minutesFor_91 : decode cX5_minutesFor 91 = .ok (.iload_n 3, 1) := by decide +kernel
theorem dX5_minutesFor_92 : decode cX5_minutesFor 92 = .ok (.imul, 1) := by decide +kernel
theorem dX5_minutesFor_93 : decode cX5_minutesFor 93 = .ok (.iconst 4, 1) := by decide +kernel
theorem dX5_minutesFor_94 : decode cX5_minutesFor 94 = .ok (.aload_n 0, 1) := by decide +kernel
theorem dX5_minutesFor_95 : decode cX5_minutesFor 95 = .ok (.getfield 18, 3) := by decide +kernel
theorem dX5_minutesFor_98 : decode cX5_minutesFor 98 = .ok (.getfield 97, 3) := by decide +kernel
theorem dX5_minutesFor_101 : decode cX5_minutesFor 101 = .ok (.iload_n 2, 1) := by decide +kernel
theorem dX5_minutesFor_102 : decode cX5_minutesFor 102 = .ok (.iaload, 1) := by decide +kernel
theorem dX5_minutesFor_103 : decode cX5_minutesFor 103 = .ok (.imul, 1) := by decide +kernel
theorem dX5_minutesFor_104 : decode cX5_minutesFor 104 = .ok (.iadd, 1) := by decide +kernel
theorem dX5_minutesFor_105 : decode cX5_minutesFor 105 = .ok (.ireturn, 1) := by decide +kernel
set_option maxRecDepth 20000 in
theorem ggX5_clearStreet_X4_has : GoodIn wsX5_clearStreet wsX4_has := goodIn_r _ [10, 11, 23, 24, 25, 26, 27, 28, 29, 30, 31] (by decide +kernel) (by decide +kernel)
set_option maxRecDepth 20000 in
theorem gX5_clearStreet_X4_has : GoodIn wsX5_clearStreet (wsV RX5 85 RX4 yX4_has wsX4_has) := goodIn_app (goodIn_of _ (by decide +kernel)) ggX5_clearStreet_X4_has
theorem dX5_clearStreet_0 : decode cX5_clearStreet 0 = .ok (.aload_n 0, 1) := by decide +kernel
theorem dX5_clearStreet_1 : decode cX5_clearStreet 1 = .ok (.getfield 18, 3) := by decide +kernel
theorem dX5_clearStreet_4 : decode cX5_clearStreet 4 = .ok (.iload_n 1, 1) := by decide +kernel
theorem dX5_clearStreet_5 : decode cX5_clearStreet 5 = .ok (.invokevirtual 85, 3) := by decide +kernel
theorem dX5_clearStreet_8 : decode cX5_clearStreet 8 = .ok (.ifCond .eq 54, 3) := by decide +kernel
theorem dX5_clearStreet_11 : decode cX5_clearStreet 11 = .ok (.aload_n 0, 1) := by decide +kernel
theorem dX5_clearStreet_12 : decode cX5_clearStreet 12 = .ok (.dup, 1) := by decide +kernel
theorem dX5_clearStreet_13 : decode cX5_clearStreet 13 = .ok (.getfield 52, 3) := by decide +kernel
theorem dX5_clearStreet_16 : decode cX5_clearStreet 16 = .ok (.aload_n 0, 1) := by decide +kernel
theorem dX5_clearStreet_17 : decode cX5_clearStreet 17 = .ok (.getfield 18, 3) := by decide +kernel
theorem dX5_clearStreet_20 : decode cX5_clearStreet 20 = .ok (.getfield 153, 3) := by decide +kernel
theorem dX5_clearStreet_23 : decode cX5_clearStreet 23 = .ok (.iload_n 1, 1) := by decide +kernel
theorem dX5_clearStreet_24 : decode cX5_clearStreet 24 = .ok (.iaload, 1) := by decide +kernel
theorem dX5_clearStreet_25 : decode cX5_clearStreet 25 = .ok (.iadd, 1) := by decide +kernel
theorem dX5_clearStreet_26 : decode cX5_clearStreet 26 = .ok (.putfield 52, 3) := by decide +kernel
theorem dX5_clearStreet_29 : decode cX5_clearStreet 29 = .ok (.aload_n 0, 1) := by decide +kernel
theorem dX5_clearStreet_30 : decode cX5_clearStreet 30 = .ok (.dup, 1) := by decide +kernel
theorem dX5_clearStreet_31 : decode cX5_clearStreet 31 = .ok (.getfield 49, 3) := by decide +kernel
theorem dX5_clearStreet_34 : decode cX5_clearStreet 34 = .ok (.iconst 1, 1) := by decide +kernel
theorem dX5_clearStreet_35 : decode cX5_clearStreet 35 = .ok (.iadd, 1) := by decide +kernel
theorem dX5_clearStreet_36 : decode cX5_clearStreet 36 = .ok (.putfield 49, 3) := by decide +kernel
theorem dX5_clearStreet_39 : decode cX5_clearStreet 39 = .ok (.aload_n 0, 1) := by decide +kernel
theorem dX5_clearStreet_40 : decode cX5_clearStreet 40 = .ok (.getfield 18, 3) := by decide +kernel
theorem dX5_clearStreet_43 : decode cX5_clearStreet 43 = .ok (.getfield 153, 3) := by decide +kernel
theorem dX5_clearStreet_46 : decode cX5_clearStreet 46 = .ok (.iload_n 1, 1) := by decide +kernel
theorem dX5_clearStreet_47 : decode cX5_clearStreet 47 = .ok (.iconst 0, 1) := by decide +kernel
theorem dX5_clearStreet_48 : decode cX5_clearStreet 48 = .ok (.iastore, 1) := by decide +kernel
theorem dX5_clearStreet_49 : decode cX5_clearStreet 49 = .ok (.aload_n 0, 1) := by decide +kernel
theorem dX5_clearStreet_50 : decode cX5_clearStreet 50 = .ok (.getfield 18, 3) := by decide +kernel
theorem dX5_clearStreet_53 : decode cX5_clearStreet 53 = .ok (.getfield 156, 3) := by decide +kernel
theorem dX5_clearStreet_56 : decode cX5_clearStreet 56 = .ok (.iload_n 1, 1) := by decide +kernel
theorem dX5_clearStreet_57 : decode cX5_clearStreet 57 = .ok (.dup2, 1) := by decide +kernel
theorem dX5_clearStreet_58 : decode cX5_clearStreet 58 = .ok (.iaload, 1) := by decide +kernel
theorem dX5_clearStreet_59 : decode cX5_clearStreet 59 = .ok (.iconst 1, 1) := by decide +kernel
theorem dX5_clearStreet_60 : decode cX5_clearStreet 60 = .ok (.iadd, 1) := by decide +kernel
theorem dX5_clearStreet_61 : decode cX5_clearStreet 61 = .ok (.iastore, 1) := by decide +kernel
theorem dX5_clearStreet_62 : decode cX5_clearStreet 62 = .ok (.return_, 1) := by decide +kernel
set_option maxRecDepth 20000 in
theorem ggX5_endHour_X4_fall : GoodIn wsX5_endHour wsX4_fall := goodIn_ca (goodIn_r _ [10, 11, 12, 13, 14, 15, 16, 54, 55, 56, 57, 58, 59, 60, 61, 62] (by decide +kernel) (by decide +kernel)) (goodIn_sub (fun _ h => List.mem_cons_of_mem _ (List.mem_append_right _ h)) (by decide +kernel))
set_option maxRecDepth 20000 in
theorem gX5_endHour_X4_fall : GoodIn wsX5_endHour (wsV RX5 159 RX4 yX4_fall wsX4_fall) := goodIn_app (goodIn_of _ (by decide +kernel)) ggX5_endHour_X4_fall
set_option maxRecDepth 20000 in
theorem ggX5_endHour_X4_melt : GoodIn wsX5_endHour wsX4_melt := goodIn_ca (goodIn_r _ [20, 11, 21, 12, 22, 23, 15, 24, 54, 55, 56, 57, 58, 59, 60, 61, 62] (by decide +kernel) (by decide +kernel)) (goodIn_sub (fun _ h => List.mem_cons_of_mem _ (List.mem_append_right _ h)) (by decide +kernel))
set_option maxRecDepth 20000 in
theorem gX5_endHour_X4_melt : GoodIn wsX5_endHour (wsV RX5 162 RX4 yX4_melt wsX4_melt) := goodIn_app (goodIn_of _ (by decide +kernel)) ggX5_endHour_X4_melt
set_option maxRecDepth 20000 in
theorem ggX5_endHour_X4_drift : GoodIn wsX5_endHour wsX4_drift := goodIn_ca (goodIn_r _ [28, 11, 12, 13, 14, 15, 16, 29, 30, 31, 9, 32, 54, 55, 56, 57, 58, 59, 60, 61, 62] (by decide +kernel) (by decide +kernel)) (goodIn_sub (fun _ h => List.mem_cons_of_mem _ (List.mem_append_right _ h)) (by decide +kernel))
set_option maxRecDepth 20000 in
theorem gX5_endHour_X4_drift : GoodIn wsX5_endHour (wsV RX5 165 RX4 yX4_drift wsX4_drift) := goodIn_app (goodIn_of _ (by decide +kernel)) ggX5_endHour_X4_drift
set_option maxRecDepth 20000 in
theorem ggX5_endHour_X4_complain : GoodIn wsX5_endHour wsX4_complain := goodIn_ca (goodIn_r _ [36, 11, 37, 38, 39, 40, 9, 41, 42, 12, 29, 30, 31, 32, 54, 55, 56, 57, 58, 59, 60, 61, 62] (by decide +kernel) (by decide +kernel)) (goodIn_sub (fun _ h => List.mem_cons_of_mem _ (List.mem_append_right _ h)) (by decide +kernel))
set_option maxRecDepth 20000 in
theorem gX5_endHour_X4_complain : GoodIn wsX5_endHour (wsV RX5 168 RX4 yX4_complain wsX4_complain) := goodIn_app (goodIn_of _ (by decide +kernel)) ggX5_endHour_X4_complain
theorem dX5_endHour_0 : decode cX5_endHour 0 = .ok (.aload_n 0, 1) := by decide +kernel
theorem dX5_endHour_1 : decode cX5_endHour 1 = .ok (.getfield 18, 3) := by decide +kernel
theorem dX5_endHour_4 : decode cX5_endHour 4 = .ok (.aload_n 0, 1) := by decide +kernel
theorem dX5_endHour_5 : decode cX5_endHour 5 = .ok (.getfield 43, 3) := by decide +kernel
theorem dX5_endHour_8 : decode cX5_endHour 8 = .ok (.invokevirtual 159, 3) := by decide +kernel
theorem dX5_endHour_11 : decode cX5_endHour 11 = .ok (.aload_n 0, 1) := by decide +kernel
theorem dX5_endHour_12 : decode cX5_endHour 12 = .ok (.getfield 18, 3) := by decide +kernel
theorem dX5_endHour_15 : decode cX5_endHour 15 = .ok (.aload_n 0, 1) := by decide +kernel
theorem dX5_endHour_16 : decode cX5_endHour 16 = .ok (.getfield 36, 3) := by decide +kernel
theorem dX5_endHour_19 : decode cX5_endHour 19 = .ok (.invokevirtual 162, 3) := by decide +kernel
theorem dX5_endHour_22 : decode cX5_endHour 22 = .ok (.aload_n 0, 1) := by decide +kernel
theorem dX5_endHour_23 : decode cX5_endHour 23 = .ok (.getfield 18, 3) := by decide +kernel
theorem dX5_endHour_26 : decode cX5_endHour 26 = .ok (.aload_n 0, 1) := by decide +kernel
theorem dX5_endHour_27 : decode cX5_endHour 27 = .ok (.getfield 46, 3) := by decide +kernel
theorem dX5_endHour_30 : decode cX5_endHour 30 = .ok (.invokevirtual 165, 3) := by decide +kernel
theorem dX5_endHour_33 : decode cX5_endHour 33 = .ok (.aload_n 0, 1) := by decide +kernel
theorem dX5_endHour_34 : decode cX5_endHour 34 = .ok (.dup, 1) := by decide +kernel
theorem dX5_endHour_35 : decode cX5_endHour 35 = .ok (.getfield 58, 3) := by decide +kernel
theorem dX5_endHour_38 : decode cX5_endHour 38 = .ok (.aload_n 0, 1) := by decide +kernel
theorem dX5_endHour_39 : decode cX5_endHour 39 = .ok (.getfield 18, 3) := by decide +kernel
theorem dX5_endHour_42 : decode cX5_endHour 42 = .ok (.invokevirtual 168, 3) := by decide +kernel
theorem dX5_endHour_45 : decode cX5_endHour 45 = .ok (.iadd, 1) := by decide +kernel
theorem dX5_endHour_46 : decode cX5_endHour 46 = .ok (.putfield 58, 3) := by decide +kernel
theorem dX5_endHour_49 : decode cX5_endHour 49 = .ok (.return_, 1) := by decide +kernel
set_option maxRecDepth 20000 in
theorem ggX6_init_X1_init : GoodIn wsX6_init wsX1_init := goodIn_r _ [30, 31, 2, 3, 32, 33, 34, 35, 36, 104, 105, 106] (by decide +kernel) (by decide +kernel)
set_option maxRecDepth 20000 in
theorem gX6_init_X1_init_n9 : GoodIn wsX6_init (wsX1_init) := ggX6_init_X1_init
set_option maxRecDepth 20000 in
theorem ggX6_init_X5_init : GoodIn wsX6_init wsX5_init := goodIn_r _ [39, 40, 2, 3, 41, 42, 43, 44, 45, 46, 47, 48, 49, 50, 51, 52, 32, 53, 54, 55, 56, 57, 58, 59, 60, 61, 62, 63, 64, 65, 66, 67, 68, 69, 117, 118, 119, 120, 121, 122, 123, 124, 125, 126, 127, 139, 140, 141, 142, 143, 144, 145, 146, 147, 148, 149, 150, 151, 152, 153] (by decide +kernel) (by decide +kernel)
set_option maxRecDepth 20000 in
theorem gX6_init_X5_init : GoodIn wsX6_init (wsX5_init) := ggX6_init_X5_init
set_option maxRecDepth 20000 in
theorem ggX6_init_X0_init : GoodIn wsX6_init wsX0_init := goodIn_r _ [72, 73, 2, 3, 74, 75, 9, 10, 76, 38, 39, 40, 41, 42, 43, 44, 45, 46, 47, 48, 49, 50, 51, 52, 32, 53, 54, 55, 56, 57, 58, 59, 60, 61, 62, 63, 64, 65, 66, 67, 68, 69, 128, 129, 130, 117, 118, 119, 120, 121, 122, 123, 124, 125, 126, 127, 139, 140, 141, 142, 143, 144, 145, 146, 147, 148, 149, 150, 151, 152, 153] (by decide +kernel) (by decide +kernel)
set_option maxRecDepth 20000 in
theorem gX6_init_X0_init : GoodIn wsX6_init (wsX0_init) := ggX6_init_X0_init
set_option maxRecDepth 20000 in
theorem ggX6_init_X3_init : GoodIn wsX6_init wsX3_init := goodIn_r _ [78, 79, 2, 3, 80, 23, 24, 81, 32, 82, 83, 84, 85, 86, 87, 88, 89, 90, 91, 92, 93, 94, 95, 96, 97, 98, 99, 100, 101, 102, 135, 136, 137, 138, 131, 132, 133, 134] (by decide +kernel) (by decide +kernel)
set_option maxRecDepth 20000 in
theorem gX6_init_X3_init_n40 : GoodIn wsX6_init (wsX3_init) := ggX6_init_X3_init
set_option maxRecDepth 20000 in
theorem ggX6_init_J4_init_da8c8 : GoodIn wsX6_init wsJ4_init_da8c8 := goodIn_r _ [85, 86, 87, 88, 89, 90, 2, 3, 91, 92, 93, 94, 95, 96, 97, 98, 99, 100, 101, 102, 135, 136, 137, 138] (by decide +kernel) (by decide +kernel)
set_option maxRecDepth 20000 in
theorem gX6_init_J4_init_da8c8 : GoodIn wsX6_init (wsJ4_init_da8c8) := ggX6_init_J4_init_da8c8
theorem dX6_init_0 : decode cX6_init 0 = .ok (.aload_n 0, 1) := by decide +kernel
theorem dX6_init_1 : decode cX6_init 1 = .ok (.invokespecial 1, 3) := by decide +kernel
theorem dX6_init_4 : decode cX6_init 4 = .ok (.aload_n 0, 1) := by decide +kernel
theorem dX6_init_5 : decode cX6_init 5 = .ok (.new 7, 3) := by decide +kernel
theorem dX6_init_8 : decode cX6_init 8 = .ok (.dup, 1) := by decide +kernel
theorem dX6_init_9 : decode cX6_init 9 = .ok (.invokespecial 9, 3) := by decide +kernel
theorem dX6_init_12 : decode cX6_init 12 = .ok (.putfield 10, 3) := by decide +kernel
theorem dX6_init_15 : decode cX6_init 15 = .ok (.aload_n 0, 1) := by decide +kernel
theorem dX6_init_16 : decode cX6_init 16 = .ok (.new 16, 3) := by decide +kernel
theorem dX6_init_19 : decode cX6_init 19 = .ok (.dup, 1) := by decide +kernel
theorem dX6_init_20 : decode cX6_init 20 = .ok (.aload_n 0, 1) := by decide +kernel
theorem dX6_init_21 : decode cX6_init 21 = .ok (.getfield 10, 3) := by decide +kernel
theorem dX6_init_24 : decode cX6_init 24 = .ok (.invokespecial 18, 3) := by decide +kernel
theorem dX6_init_27 : decode cX6_init 27 = .ok (.putfield 21, 3) := by decide +kernel
theorem dX6_init_30 : decode cX6_init 30 = .ok (.aload_n 0, 1) := by decide +kernel
theorem dX6_init_31 : decode cX6_init 31 = .ok (.new 16, 3) := by decide +kernel
theorem dX6_init_34 : decode cX6_init 34 = .ok (.dup, 1) := by decide +kernel
theorem dX6_init_35 : decode cX6_init 35 = .ok (.aload_n 0, 1) := by decide +kernel
theorem dX6_init_36 : decode cX6_init 36 = .ok (.getfield 10, 3) := by decide +kernel
theorem dX6_init_39 : decode cX6_init 39 = .ok (.invokespecial 18, 3) := by decide +kernel
theorem dX6_init_42 : decode cX6_init 42 = .ok (.putfield 25, 3) := by decide +kernel
theorem dX6_init_45 : decode cX6_init 45 = .ok (.aload_n 0, 1) := by decide +kernel
theorem dX6_init_46 : decode cX6_init 46 = .ok (.new 16, 3) := by decide +kernel
theorem dX6_init_49 : decode cX6_init 49 = .ok (.dup, 1) := by decide +kernel
theorem dX6_init_50 : decode cX6_init 50 = .ok (.aload_n 0, 1) := by decide +kernel
theorem dX6_init_51 : decode cX6_init 51 = .ok (.getfield 10, 3) := by decide +kernel
theorem dX6_init_54 : decode cX6_init 54 = .ok (.invokespecial 18, 3) := by decide +kernel
theorem dX6_init_57 : decode cX6_init 57 = .ok (.putfield 28, 3) := by decide +kernel
theorem dX6_init_60 : decode cX6_init 60 = .ok (.aload_n 0, 1) := by decide +kernel
theorem dX6_init_61 : decode cX6_init 61 = .ok (.new 31, 3) := by decide +kernel
theorem dX6_init_64 : decode cX6_init 64 = .ok (.dup, 1) := by decide +kernel
theorem dX6_init_65 : decode cX6_init 65 = .ok (.aload_n 0, 1) := by decide +kernel
theorem dX6_init_66 : decode cX6_init 66 = .ok (.getfield 10, 3) := by decide +kernel
theorem dX6_init_69 : decode cX6_init 69 = .ok (.invokespecial 33, 3) := by decide +kernel
theorem dX6_init_72 : decode cX6_init 72 = .ok (.putfield 34, 3) := by decide +kernel
theorem dX6_init_75 : decode cX6_init 75 = .ok (.aload_n 0, 1) := by decide +kernel
theorem dX6_init_76 : decode cX6_init 76 = .ok (.new 38, 3) := by decide +kernel
theorem dX6_init_79 : decode cX6_init 79 = .ok (.dup, 1) := by decide +kernel
theorem dX6_init_80 : decode cX6_init 80 = .ok (.invokespecial 40, 3) := by decide +kernel
theorem dX6_init_83 : decode cX6_init 83 = .ok (.putfield 41, 3) := by decide +kernel
theorem dX6_init_86 : decode cX6_init 86 = .ok (.aload_n 0, 1) := by decide +kernel
theorem dX6_init_87 : decode cX6_init 87 = .ok (.new 45, 3) := by decide +kernel
theorem dX6_init_90 : decode cX6_init 90 = .ok (.dup, 1) := by decide +kernel
theorem dX6_init_91 : decode cX6_init 91 = .ok (.invokespecial 47, 3) := by decide +kernel
theorem dX6_init_94 : decode cX6_init 94 = .ok (.putfield 48, 3) := by decide +kernel
theorem dX6_init_97 : decode cX6_init 97 = .ok (.aload_n 0, 1) := by decide +kernel
theorem dX6_init_98 : decode cX6_init 98 = .ok (.iconst 0, 1) := by decide +kernel
theorem dX6_init_99 : decode cX6_init 99 = .ok (.putfield 52, 3) := by decide +kernel
theorem dX6_init_102 : decode cX6_init 102 = .ok (.aload_n 0, 1) := by decide +kernel
theorem dX6_init_103 : decode cX6_init 103 = .ok (.iconst (-1), 1) := by decide +kernel
theorem dX6_init_104 : decode cX6_init 104 = .ok (.putfield 56, 3) := by decide +kernel
theorem dX6_init_107 : decode cX6_init 107 = .ok (.aload_n 0, 1) := by decide +kernel
theorem dX6_init_108 : decode cX6_init 108 = .ok (.iconst (-1), 1) := by decide +kernel
theorem dX6_init_109 : decode cX6_init 109 = .ok (.putfield 60, 3) := by decide +kernel
theorem dX6_init_112 : decode cX6_init 112 = .ok (.return_, 1) := by decide +kernel
