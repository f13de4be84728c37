theorem dX5_changeRate_5 : decode cX5_changeRate 5 = .ok (.bipush 9, 2) := by decide +kernel
theorem dX5_changeRate_7 : decode cX5_changeRate 7 = .ok (.if_icmp .le 6, 3) := by decide +kernel
theorem dX5_changeRate_10 : decode cX5_changeRate 10 = .ok (.bipush (-2), 2) := by decide +kernel
theorem dX5_changeRate_12 : decode cX5_changeRate 12 = .ok (.ireturn, 1) := by decide +kernel
theorem dX5_changeRate_13 : decode cX5_changeRate 13 = .ok (.aload_n 0, 1) := by decide +kernel
theorem dX5_changeRate_14 : decode cX5_changeRate 14 = .ok (.getfield 43, 3) := by decide +kernel
theorem dX5_changeRate_17 : decode cX5_changeRate 17 = .ok (.istore_n 2, 1) := by decide +kernel
theorem dX5_changeRate_18 : decode cX5_changeRate 18 = .ok (.aload_n 0, 1) := by decide +kernel
theorem dX5_changeRate_19 : decode cX5_changeRate 19 = .ok (.iload_n 1, 1) := by decide +kernel
theorem dX5_changeRate_20 : decode cX5_changeRate 20 = .ok (.putfield 43, 3) := by decide +kernel
theorem dX5_changeRate_23 : decode cX5_changeRate 23 = .ok (.iload_n 2, 1) := by decide +kernel
theorem dX5_changeRate_24 : decode cX5_changeRate 24 = .ok (.ireturn, 1) := by decide +kernel
theorem dX5_changeForce_0 : decode cX5_changeForce 0 = .ok (.iload_n 1, 1) := by decide +kernel
theorem dX5_changeForce_1 : decode cX5_changeForce 1 = .ok (.ifCond .lt 9, 3) := by decide +kernel
theorem dX5_changeForce_4 : decode cX5_changeForce 4 = .ok (.iload_n 1, 1) := by decide +kernel
theorem dX5_changeForce_5 : decode cX5_changeForce 5 = .ok (.bipush 9, 2) := by decide +kernel
theorem dX5_changeForce_7 : decode cX5_changeForce 7 = .ok (.if_icmp .le 6, 3) := by decide +kernel
theorem dX5_changeForce_10 : decode cX5_changeForce 10 = .ok (.bipush (-2), 2) := by decide +kernel
theorem dX5_changeForce_12 : decode cX5_changeForce 12 = .ok (.ireturn, 1) := by decide +kernel
theorem dX5_changeForce_13 : decode cX5_changeForce 13 = .ok (.aload_n 0, 1) := by decide +kernel
theorem dX5_changeForce_14 : decode cX5_changeForce 14 = .ok (.getfield 46, 3) := by decide +kernel
theorem dX5_changeForce_17 : decode cX5_changeForce 17 = .ok (.istore_n 2, 1) := by decide +kernel
theorem dX5_changeForce_18 : decode cX5_changeForce 18 = .ok (.aload_n 0, 1) := by decide +kernel
theorem dX5_changeForce_19 : decode cX5_changeForce 19 = .ok (.iload_n 1, 1) := by decide +kernel
theorem dX5_changeForce_20 : decode cX5_changeForce 20 = .ok (.putfield 46, 3) := by decide +kernel
theorem dX5_changeForce_23 : decode cX5_changeForce 23 = .ok (.iload_n 2, 1) := by decide +kernel
theorem dX5_changeForce_24 : decode cX5_changeForce 24 = .ok (.ireturn, 1) := by decide +kernel
theorem dX5_passMinutes_0 : decode cX5_passMinutes 0 = .ok (.iload_n 1, 1) := by decide +kernel
theorem dX5_passMinutes_1 : decode cX5_passMinutes 1 = .ok (.iconst 1, 1) := by decide +kernel
theorem dX5_passMinutes_2 : decode cX5_passMinutes 2 = .ok (.if_icmp .lt 10, 3) := by decide +kernel
theorem dX5_passMinutes_5 : decode cX5_passMinutes 5 = .ok (.iload_n 1, 1) := by decide +kernel
theorem dX5_passMinutes_6 : decode cX5_passMinutes 6 = .ok (.sipush 600, 3) := by decide +kernel
theorem dX5_passMinutes_9 : decode cX5_passMinutes 9 = .ok (.if_icmp .le 6, 3) := by decide +kernel
theorem dX5_passMinutes_12 : decode cX5_passMinutes 12 = .ok (.bipush (-2), 2) := by decide +kernel
theorem dX5_passMinutes_14 : decode cX5_passMinutes 14 = .ok (.ireturn, 1) := by decide +kernel
theorem dX5_passMinutes_15 : decode cX5_passMinutes 15 = .ok (.aload_n 0, 1) := by decide +kernel
theorem dX5_passMinutes_16 : decode cX5_passMinutes 16 = .ok (.getfield 49, 3) := by decide +kernel
theorem dX5_passMinutes_19 : decode cX5_passMinutes 19 = .ok (.istore_n 2, 1) := by decide +kernel
theorem dX5_passMinutes_20 : decode cX5_passMinutes 20 = .ok (.iconst 0, 1) := by decide +kernel
theorem dX5_passMinutes_21 : decode cX5_passMinutes 21 = .ok (.istore_n 3, 1) := by decide +kernel
theorem dX5_passMinutes_22 : decode cX5_passMinutes 22 = .ok (.iload_n 3, 1) := by decide +kernel
theorem dX5_passMinutes_23 : decode cX5_passMinutes 23 = .ok (.iload_n 1, 1) := by decide +kernel
theorem dX5_passMinutes_24 : decode cX5_passMinutes 24 = .ok (.if_icmp .ge 85, 3) := by decide +kernel
theorem dX5_passMinutes_27 : decode cX5_passMinutes 27 = .ok (.aload_n 0, 1) := by decide +kernel
theorem dX5_passMinutes_28 : decode cX5_passMinutes 28 = .ok (.dup, 1) := by decide +kernel
theorem dX5_passMinutes_29 : decode cX5_passMinutes 29 = .ok (.getfield 36, 3) := by decide +kernel
theorem dX5_passMinutes_32 : decode cX5_passMinutes 32 = .ok (.iconst 1, 1) := by decide +kernel
theorem dX5_passMinutes_33 : decode cX5_passMinutes 33 = .ok (.iadd, 1) := by decide +kernel
theorem dX5_passMinutes_34 : decode cX5_passMinutes 34 = .ok (.putfield 36, 3) := by decide +kernel
theorem dX5_passMinutes_37 : decode cX5_passMinutes 37 = .ok (.iconst 0, 1) := by decide +kernel
theorem dX5_passMinutes_38 : decode cX5_passMinutes 38 = .ok (.istore 4, 2) := by decide +kernel
theorem dX5_passMinutes_40 : decode cX5_passMinutes 40 = .ok (.iload 4, 2) := by decide +kernel
theorem dX5_passMinutes_42 : decode cX5_passMinutes 42 = .ok (.aload_n 0, 1) := by decide +kernel
theorem dX5_passMinutes_43 : decode cX5_passMinutes 43 = .ok (.getfield 25, 3) := by decide +kernel
theorem dX5_passMinutes_46 : decode cX5_passMinutes 46 = .ok (.getfield 104, 3) := by decide +kernel
theorem dX5_passMinutes_49 : decode cX5_passMinutes 49 = .ok (.if_icmp .ge 40, 3) := by decide +kernel
theorem dX5_passMinutes_52 : decode cX5_passMinutes 52 = .ok (.aload_n 0, 1) := by decide +kernel
theorem dX5_passMinutes_53 : decode cX5_passMinutes 53 = .ok (.getfield 25, 3) := by decide +kernel
theorem dX5_passMinutes_56 : decode cX5_passMinutes 56 = .ok (.iload 4, 2) := by decide +kernel
theorem dX5_passMinutes_58 : decode cX5_passMinutes 58 = .ok (.invokevirtual 107, 3) := by decide +kernel
theorem dX5_passMinutes_61 : decode cX5_passMinutes 61 = .ok (.ifCond .eq 9, 3) := by decide +kernel
theorem dX5_passMinutes_64 : decode cX5_passMinutes 64 = .ok (.aload_n 0, 1) := by decide +kernel
theorem dX5_passMinutes_65 : decode cX5_passMinutes 65 = .ok (.iload 4, 2) := by decide +kernel
theorem dX5_passMinutes_67 : decode cX5_passMinutes 67 = .ok (.invokevirtual 110, 3) := by decide +kernel
theorem dX5_passMinutes_70 : decode cX5_passMinutes 70 = .ok (.aload_n 0, 1) := by decide +kernel
theorem dX5_passMinutes_71 : decode cX5_passMinutes 71 = .ok (.aload_n 0, 1) := by decide +kernel
theorem dX5_passMinutes_72 : decode cX5_passMinutes 72 = .ok (.getfield 25, 3) := by decide +kernel
theorem dX5_passMinutes_75 : decode cX5_passMinutes 75 = .ok (.iload 4, 2) := by decide +kernel
theorem dX5_passMinutes_77 : decode cX5_passMinutes 77 = .ok (.invokevirtual 114, 3) := by decide +kernel
theorem dX5_passMinutes_80 : decode cX5_passMinutes 80 = .ok (.invokevirtual 117, 3) := by decide +kernel
theorem dX5_passMinutes_83 : decode cX5_passMinutes 83 = .ok (.iinc 4 1, 3) := by decide +kernel
theorem dX5_passMinutes_86 : decode cX5_passMinutes 86 = .ok (.goto (-46), 3) := by decide +kernel
theorem dX5_passMinutes_89 : decode cX5_passMinutes 89 = .ok (.aload_n 0, 1) := by decide +kernel
theorem dX5_passMinutes_90 : decode cX5_passMinutes 90 = .ok (.getfield 36, 3) := by decide +kernel
theorem dX5_passMinutes_93 : decode cX5_passMinutes 93 = .ok (.bipush 60, 2) := by decide +kernel
theorem dX5_passMinutes_95 : decode cX5_passMinutes 95 = .ok (.irem, 1) := by decide +kernel
theorem dX5_passMinutes_96 : decode cX5_passMinutes 96 = .ok (.ifCond .ne 7, 3) := by decide +kernel
theorem dX5_passMinutes_99 : decode cX5_passMinutes 99 = .ok (.aload_n 0, 1) := by decide +kernel
theorem dX5_passMinutes_100 : decode cX5_passMinutes 100 = .ok (.invokevirtual 120, 3) := by decide +kernel
theorem dX5_passMinutes_103 : decode cX5_passMinutes 103 = .ok (.iinc 3 1, 3) := by decide +kernel
theorem dX5_passMinutes_106 : decode cX5_passMinutes 106 = .ok (.goto (-84), 3) := by decide +kernel
theorem dX5_passMinutes_109 : decode cX5_passMinutes 109 = .ok (.aload_n 0, 1) := by decide +kernel
theorem dX5_passMinutes_110 : decode cX5_passMinutes 110 = .ok (.getfield 49, 3) := by decide +kernel
theorem dX5_passMinutes_113 : decode cX5_passMinutes 113 = .ok (.iload_n 2, 1) := by decide +kernel
theorem dX5_passMinutes_114 : decode cX5_passMinutes 114 = .ok (.isub, 1) := by decide +kernel
theorem dX5_passMinutes_115 : decode cX5_passMinutes 115 = .ok (.ireturn, 1) := by decide +kernel
theorem dX5_beginOrder_0 : decode cX5_beginOrder 0 = .ok (.aload_n 0, 1) := by decide +kernel
theorem dX5_beginOrder_1 : decode cX5_beginOrder 1 = .ok (.getfield 25, 3) := by decide +kernel
theorem dX5_beginOrder_4 : decode cX5_beginOrder 4 = .ok (.iload_n 1, 1) := by decide +kernel
theorem dX5_beginOrder_5 : decode cX5_beginOrder 5 = .ok (.invokevirtual 123, 3) := by decide +kernel
theorem dX5_beginOrder_8 : decode cX5_beginOrder 8 = .ok (.istore_n 2, 1) := by decide +kernel
theorem dX5_beginOrder_9 : decode cX5_beginOrder 9 = .ok (.aload_n 0, 1) := by decide +kernel
theorem dX5_beginOrder_10 : decode cX5_beginOrder 10 = .ok (.iload_n 1, 1) := by decide +kernel
theorem dX5_beginOrder_11 : decode cX5_beginOrder 11 = .ok (.iload_n 2, 1) := by decide +kernel
theorem dX5_beginOrder_12 : decode cX5_beginOrder 12 = .ok (.invokevirtual 126, 3) := by decide +kernel
theorem dX5_beginOrder_15 : decode cX5_beginOrder 15 = .ok (.istore_n 3, 1) := by decide +kernel
theorem dX5_beginOrder_16 : decode cX5_beginOrder 16 = .ok (.iload_n 3, 1) := by decide +kernel
theorem dX5_beginOrder_17 : decode cX5_beginOrder 17 = .ok (.ldc 129, 2) := by decide +kernel
theorem dX5_beginOrder_19 : decode cX5_beginOrder 19 = .ok (.if_icmp .ge 14, 3) := by decide +kernel
theorem dX5_beginOrder_22 : decode cX5_beginOrder 22 = .ok (.aload_n 0, 1) := by decide +kernel
theorem dX5_beginOrder_23 : decode cX5_beginOrder 23 = .ok (.getfield 18, 3) := by decide +kernel
theorem dX5_beginOrder_26 : decode cX5_beginOrder 26 = .ok (.iload_n 2, 1) := by decide +kernel
theorem dX5_beginOrder_27 : decode cX5_beginOrder 27 = .ok (.invokevirtual 85, 3) := by decide +kernel
theorem dX5_beginOrder_30 : decode cX5_beginOrder 30 = .ok (.ifCond .ne 14, 3) := by decide +kernel
theorem dX5_beginOrder_33 : decode cX5_beginOrder 33 = .ok (.aload_n 0, 1) := by decide +kernel
theorem dX5_beginOrder_34 : decode cX5_beginOrder 34 = .ok (.dup, 1) := by decide +kernel
theorem dX5_beginOrder_35 : decode cX5_beginOrder 35 = .ok (.getfield 55, 3) := by decide +kernel
theorem dX5_beginOrder_38 : decode cX5_beginOrder 38 = .ok (.iconst 1, 1) := by decide +kernel
theorem dX5_beginOrder_39 : decode cX5_beginOrder 39 = .ok (.iadd, 1) := by decide +kernel
theorem dX5_beginOrder_40 : decode cX5_beginOrder 40 = .ok (.putfield 55, 3) := by decide +kernel
theorem dX5_beginOrder_43 : decode cX5_beginOrder 43 = .ok (.return_, 1) := by decide +kernel
theorem dX5_beginOrder_44 : decode cX5_beginOrder 44 = .ok (.aload_n 0, 1) := by decide +kernel
theorem dX5_beginOrder_45 : decode cX5_beginOrder 45 = .ok (.getfield 18, 3) := by decide +kernel
theorem dX5_beginOrder_48 : decode cX5_beginOrder 48 = .ok (.getfield 130, 3) := by decide +kernel
theorem dX5_beginOrder_51 : decode cX5_beginOrder 51 = .ok (.iload_n 2, 1) := by decide +kernel
theorem dX5_beginOrder_52 : decode cX5_beginOrder 52 = .ok (.iaload, 1) := by decide +kernel
theorem dX5_beginOrder_53 : decode cX5_beginOrder 53 = .ok (.istore 4, 2) := by decide +kernel
theorem dX5_beginOrder_55 : decode cX5_beginOrder 55 = .ok (.aload_n 0, 1) := by decide +kernel
theorem dX5_beginOrder_56 : decode cX5_beginOrder 56 = .ok (.getfield 18, 3) := by decide +kernel
theorem dX5_beginOrder_59 : decode cX5_beginOrder 59 = .ok (.getfield 133, 3) := by decide +kernel
theorem dX5_beginOrder_62 : decode cX5_beginOrder 62 = .ok (.iload_n 2, 1) := by decide +kernel
theorem dX5_beginOrder_63 : decode cX5_beginOrder 63 = .ok (.iaload, 1) := by decide +kernel
theorem dX5_beginOrder_64 : decode cX5_beginOrder 64 = .ok (.istore 5, 2) := by decide +kernel
theorem dX5_beginOrder_66 : decode cX5_beginOrder 66 = .ok (.aload_n 0, 1) := by decide +kernel
theorem dX5_beginOrder_67 : decode cX5_beginOrder 67 = .ok (.getfield 9, 3) := by decide +kernel
theorem dX5_beginOrder_70 : decode cX5_beginOrder 70 = .ok (.iload 4, 2) := by decide +kernel
theorem dX5_beginOrder_72 : decode cX5_beginOrder 72 = .ok (.invokevirtual 136, 3) := by decide +kernel
theorem dX5_beginOrder_75 : decode cX5_beginOrder 75 = .ok (.aload_n 0, 1) := by decide +kernel
theorem dX5_beginOrder_76 : decode cX5_beginOrder 76 = .ok (.getfield 9, 3) := by decide +kernel
theorem dX5_beginOrder_79 : decode cX5_beginOrder 79 = .ok (.iload 5, 2) := by decide +kernel
theorem dX5_beginOrder_81 : decode cX5_beginOrder 81 = .ok (.invokevirtual 136, 3) := by decide +kernel
theorem dX5_beginOrder_84 : decode cX5_beginOrder 84 = .ok (.if_icmp .gt 7, 3) := by decide +kernel
theorem dX5_beginOrder_87 : decode cX5_beginOrder 87 = .ok (.iconst 1, 1) := by decide +kernel
theorem dX5_beginOrder_88 : decode cX5_beginOrder 88 = .ok (.goto 4, 3) := by decide +kernel
theorem dX5_beginOrder_91 : decode cX5_beginOrder 91 = .ok (.iconst 0, 1) := by decide +kernel
theorem dX5_beginOrder_92 : decode cX5_beginOrder 92 = .ok (.istore 6, 2) := by decide +kernel
theorem dX5_beginOrder_94 : decode cX5_beginOrder 94 = .ok (.aload_n 0, 1) := by decide +kernel
theorem dX5_beginOrder_95 : decode cX5_beginOrder 95 = .ok (.getfield 25, 3) := by decide +kernel
theorem dX5_beginOrder_98 : decode cX5_beginOrder 98 = .ok (.iload_n 1, 1) := by decide +kernel
theorem dX5_beginOrder_99 : decode cX5_beginOrder 99 = .ok (.iload_n 2, 1) := by decide +kernel
theorem dX5_beginOrder_100 : decode cX5_beginOrder 100 = .ok (.iload_n 3, 1) := by decide +kernel
theorem dX5_beginOrder_101 : decode cX5_beginOrder 101 = .ok (.iload 6, 2) := by decide +kernel
theorem dX5_beginOrder_103 : decode cX5_beginOrder 103 = .ok (.ifCond .eq 8, 3) := by decide +kernel
theorem dX5_beginOrder_106 : decode cX5_beginOrder 106 = .ok (.iload 5, 2) := by decide +kernel
theorem dX5_beginOrder_108 : decode cX5_beginOrder 108 = .ok (.goto 5, 3) := by decide +kernel
theorem dX5_beginOrder_111 : decode cX5_beginOrder 111 = .ok (.iload 4, 2) := by decide +kernel
theorem dX5_beginOrder_113 : decode cX5_beginOrder 113 = .ok (.invokevirtual 141, 3) := by decide +kernel
theorem dX5_beginOrder_116 : decode cX5_beginOrder 116 = .ok (.return_, 1) := by decide +kernel
theorem dX5_minutesFor_0 : decode cX5_minutesFor 0 = .ok (.aload_n 0, 1) := by decide +kernel
theorem dX5_minutesFor_1 : decode cX5_minutesFor 1 = .ok (.getfield 25, 3) := by decide +kernel
theorem dX5_minutesFor_4 : decode cX5_minutesFor 4 = .ok (.iload_n 1, 1) := by decide +kernel
theorem dX5_minutesFor_5 : decode cX5_minutesFor 5 = .ok (.invokevirtual 145, 3) := by decide +kernel
theorem dX5_minutesFor_8 : decode cX5_minutesFor 8 = .ok (.ifCond .eq 14, 3) := by decide +kernel
theorem dX5_minutesFor_11 : decode cX5_minutesFor 11 = .ok (.aload_n 0, 1) := by decide +kernel
theorem dX5_minutesFor_12 : decode cX5_minutesFor 12 = .ok (.getfield 18, 3) := by decide +kernel
theorem dX5_minutesFor_15 : decode cX5_minutesFor 15 = .ok (.iload_n 2, 1) := by decide +kernel
theorem dX5_minutesFor_16 : decode cX5_minutesFor 16 = .ok (.invokevirtual 85, 3) := by decide +kernel
theorem dX5_minutesFor_19 : decode cX5_minutesFor 19 = .ok (.ifCond .ne 6, 3) := by decide +kernel
theorem dX5_minutesFor_22 : decode cX5_minutesFor 22 = .ok (.ldc 129, 2) := by decide +kernel
theorem dX5_minutesFor_24 : decode cX5_minutesFor 24 = .ok (.ireturn, 1) := by decide +kernel
theorem dX5_minutesFor_25 : decode cX5_minutesFor 25 = .ok (.aload_n 0, 1) := by decide +kernel
theorem dX5_minutesFor_26 : decode cX5_minutesFor 26 = .ok (.getfield 9, 3) := by decide +kernel
theorem dX5_minutesFor_29 : decode cX5_minutesFor 29 = .ok (.aload_n 0, 1) := by decide +kernel
theorem dX5_minutesFor_30 : decode cX5_minutesFor 30 = .ok (.getfield 25, 3) := by decide +kernel
theorem dX5_minutesFor_33 : decode cX5_minutesFor 33 = .ok (.getfield 146, 3) := by decide +kernel
theorem dX5_minutesFor_36 : decode cX5_minutesFor 36 = .ok (.iload_n 1, 1) := by decide +kernel
theorem dX5_minutesFor_37 : decode cX5_minutesFor 37 = .ok (.iaload, 1) := by decide +kernel
theorem dX5_minutesFor_38 : decode cX5_minutesFor 38 = .ok (.aload_n 0, 1) := by decide +kernel
theorem dX5_minutesFor_39 : decode cX5_minutesFor 39 = .ok (.getfield 18, 3) := by decide +kernel
theorem dX5_minutesFor_42 : decode cX5_minutesFor 42 = .ok (.invokevirtual 149, 3) := by decide +kernel
theorem dX5_minutesFor_45 : decode cX5_minutesFor 45 = .ok (.aload_n 0, 1) := by decide +kernel
theorem dX5_minutesFor_46 : decode cX5_minutesFor 46 = .ok (.getfield 9, 3) := by decide +kernel
theorem dX5_minutesFor_49 : decode cX5_minutesFor 49 = .ok (.aload_n 0, 1) := by decide +kernel
theorem dX5_minutesFor_50 : decode cX5_minutesFor 50 = .ok (.getfield 18, 3) := by decide +kernel
theorem dX5_minutesFor_53 : decode cX5_minutesFor 53 = .ok (.getfield 130, 3) := by decide +kernel
theorem dX5_minutesFor_56 : decode cX5_minutesFor 56 = .ok (.iload_n 2, 1) := by decide +kernel
theorem dX5_minutesFor_57 : decode cX5_minutesFor 57 = .ok (.iaload, 1) := by decide +kernel
theorem dX5_minutesFor_58 : decode cX5_minutesFor 58 = .ok (.invokevirtual 136, 3) := by decide +kernel
theorem dX5_minutesFor_61 : decode cX5_minutesFor 61 = .ok (.aload_n 0, 1) := by decide +kernel
theorem dX5_minutesFor_62 : decode cX5_minutesFor 62 = .ok (.getfield 9, 3) := by decide +kernel
theorem dX5_minutesFor_65 : decode cX5_minutesFor 65 = .ok (.aload_n 0, 1) := by decide +kernel
theorem dX5_minutesFor_66 : decode cX5_minutesFor 66 = .ok (.getfield 18, 3) := by decide +kernel
theorem dX5_minutesFor_69 : decode cX5_minutesFor 69 = .ok (.getfield 133, 3) := by decide +kernel
theorem dX5_minutesFor_72 : decode cX5_minutesFor 72 = .ok (.iload_n 2, 1) := by decide +kernel
theorem dX5_minutesFor_73 : decode cX5_minutesFor 73 = .ok (.iaload, 1) := by decide +kernel
theorem dX5_minutesFor_74 : decode cX5_minutesFor 74 = .ok (.invokevirtual 136, 3) := by decide +kernel
theorem dX5_minutesFor_77 : decode cX5_minutesFor 77 = .ok (.invokestatic 65, 3) := by decide +kernel
theorem dX5_minutesFor_80 : decode cX5_minutesFor 80 = .ok (.istore_n 3, 1) := by decide +kernel
theorem dX5_minutesFor_81 : decode cX5_minutesFor 81 = .ok (.iload_n 3, 1) := by decide +kernel
theorem dX5_minutesFor_82 : decode cX5_minutesFor 82 = .ok (.ldc 129, 2) := by decide +kernel
theorem dX5_minutesFor_84 : decode cX5_minutesFor 84 = .ok (.if_icmp .lt 6, 3) := by decide +kernel
theorem dX5_minutesFor_87 : decode cX5_minutesFor 87 = .ok (.ldc 129, 2) := by decide +kernel
theorem dX5_minutesFor_89 : decode cX5_minutesFor 89 = .ok (.ireturn, 1) := by decide +kernel
theorem dX5_minutesFor_90 : decode cX5_minutesFor 90 = .ok (.iconst 2, 1) := by decide +kernel
theorem dX5_minutesFor_91 : decode cX5_minutesFor 91 = .ok (.iload_n 3, 1) := by decide +kernel
theorem dX5_minutesFor_92 : decode cX5_minutesFor 92 = .ok (.imul, 1) := by decide +kernel
theorem dX5_minutesFor_93 : decode cX5_minutesFor 93 = .ok (.iconst 4, 1) := by decide +kernel
theorem dX5_minutesFor_94 : decode cX5_minutesFor 94 = .ok (.aload_n 0, 1) := by decide +kernel
theorem dX5_minutesFor_95 : decode cX5_minutesFor 95 = .ok (.getfield 18, 3) := by decide +kernel
theorem dX5_minutesFor_98 : decode cX5_minutesFor 98 = .ok (.getfield 97, 3) := by decide +kernel
theorem dX5_minutesFor_101 : decode cX5_minutesFor 101 = .ok (.iload_n 2, 1) := by decide +kernel
theorem dX5_minutesFor_102 : decode cX5_minutesFor 102 = .ok (.iaload, 1) := by decide +kernel
theorem dX5_minutesFor_103 : decode cX5_minutesFor 103 = .ok (.imul, 1) := by decide +kernel
theorem dX5_minutesFor_104 : decode cX5_minutesFor 104 = .ok (.iadd, 1) := by decide +kernel
theorem dX5_minutesFor_105 : decode cX5_minutesFor 105 = .ok (.ireturn, 1) := by decide +kernel
theorem dX5_clearStreet_0 : decode cX5_clearStreet 0 = .ok (.aload_n 0, 1) := by decide +kernel
theorem dX5_clearStreet_1 : decode cX5_clearStreet 1 = .ok (.getfield 18, 3) := by decide +kernel
theorem dX5_clearStreet_4 : decode cX5_clearStreet 4 = .ok (.iload_n 1, 1) := by decide +kernel
theorem dX5_clearStreet_5 : decode cX5_clearStreet 5 = .ok (.invokevirtual 85, 3) := by decide +kernel
theorem dX5_clearStreet_8 : decode cX5_clearStreet 8 = .ok (.ifCond .eq 54, 3) := by decide +kernel
theorem dX5_clearStreet_11 : decode cX5_clearStreet 11 = .ok (.aload_n 0, 1) := by decide +kernel
theorem dX5_clearStreet_12 : decode cX5_clearStreet 12 = .ok (.dup, 1) := by decide +kernel
theorem dX5_clearStreet_13 : decode cX5_clearStreet 13 = .ok (.getfield 52, 3) := by decide +kernel
theorem dX5_clearStreet_16 : decode cX5_clearStreet 16 = .ok (.aload_n 0, 1) := by decide +kernel
theorem dX5_clearStreet_17 : decode cX5_clearStreet 17 = .ok (.getfield 18, 3) := by decide +kernel
theorem dX5_clearStreet_20 : decode cX5_clearStreet 20 = .ok (.getfield 153, 3) := by decide +kernel
theorem dX5_clearStreet_23 : decode cX5_clearStreet 23 = .ok (.iload_n 1, 1) := by decide +kernel
theorem dX5_clearStreet_24 : decode cX5_clearStreet 24 = .ok (.iaload, 1) := by decide +kernel
theorem dX5_clearStreet_25 : decode cX5_clearStreet 25 = .ok (.iadd, 1) := by decide +kernel
theorem dX5_clearStreet_26 : decode cX5_clearStreet 26 = .ok (.putfield 52, 3) := by decide +kernel
theorem dX5_clearStreet_29 : decode cX5_clearStreet 29 = .ok (.aload_n 0, 1) := by decide +kernel
theorem dX5_clearStreet_30 : decode cX5_clearStreet 30 = .ok (.dup, 1) := by decide +kernel
theorem dX5_clearStreet_31 : decode cX5_clearStreet 31 = .ok (.getfield 49, 3) := by decide +kernel
theorem dX5_clearStreet_34 : decode cX5_clearStreet 34 = .ok (.iconst 1, 1) := by decide +kernel
theorem dX5_clearStreet_35 : decode cX5_clearStreet 35 = .ok (.iadd, 1) := by decide +kernel
theorem dX5_clearStreet_36 : decode cX5_clearStreet 36 = .ok (.putfield 49, 3) := by decide +kernel
theorem dX5_clearStreet_39 : decode cX5_clearStreet 39 = .ok (.aload_n 0, 1) := by decide +kernel
theorem dX5_clearStreet_40 : decode cX5_clearStreet 40 = .ok (.getfield 18, 3) := by decide +kernel
theorem dX5_clearStreet_43 : decode cX5_clearStreet 43 = .ok (.getfield 153, 3) := by decide +kernel
theorem dX5_clearStreet_46 : decode cX5_clearStreet 46 = .ok (.iload_n 1, 1) := by decide +kernel
theorem dX5_clearStreet_47 : decode cX5_clearStreet 47 = .ok (.iconst 0, 1) := by decide +kernel
theorem dX5_clearStreet_48 : decode cX5_clearStreet 48 = .ok (.iastore, 1) := by decide +kernel
theorem dX5_clearStreet_49 : decode cX5_clearStreet 49 = .ok (.aload_n 0, 1) := by decide +kernel
theorem dX5_clearStreet_50 : decode cX5_clearStreet 50 = .ok (.getfield 18, 3) := by decide +kernel
theorem dX5_clearStreet_53 : decode cX5_clearStreet 53 = .ok (.getfield 156, 3) := by decide +kernel
theorem dX5_clearStreet_56 : decode cX5_clearStreet 56 = .ok (.iload_n 1, 1) := by decide +kernel
theorem dX5_clearStreet_57 : decode cX5_clearStreet 57 = .ok (.dup2, 1) := by decide +kernel
theorem dX5_clearStreet_58 : decode cX5_clearStreet 58 = .ok (.iaload, 1) := by decide +kernel
theorem dX5_clearStreet_59 : decode cX5_clearStreet 59 = .ok (.iconst 1, 1) := by decide +kernel
theorem dX5_clearStreet_60 : decode cX5_clearStreet 60 = .ok (.iadd, 1) := by decide +kernel
theorem dX5_clearStreet_61 : decode cX5_clearStreet 61 = .ok (.iastore, 1) := by decide +kernel
theorem dX5_clearStreet_62 : decode cX5_clearStreet 62 = .ok (.return_, 1) := by decide +kernel
theorem dX5_endHour_0 : decode cX5_endHour 0 = .ok (.aload_n 0, 1) := by decide +kernel
theorem dX5_endHour_1 : decode cX5_endHour 1 = .ok (.getfield 18, 3) := by decide +kernel
theorem dX5_endHour_4 : decode cX5_endHour 4 = .ok (.aload_n 0, 1) := by decide +kernel
theorem dX5_endHour_5 : decode cX5_endHour 5 = .ok (.getfield 43, 3) := by decide +kernel
theorem dX5_endHour_8 : decode cX5_endHour 8 = .ok (.invokevirtual 159, 3) := by decide +kernel
theorem dX5_endHour_11 : decode cX5_endHour 11 = .ok (.aload_n 0, 1) := by decide +kernel
theorem dX5_endHour_12 : decode cX5_endHour 12 = .ok (.getfield 18, 3) := by decide +kernel
theorem dX5_endHour_15 : decode cX5_endHour 15 = .ok (.aload_n 0, 1) := by decide +kernel
theorem dX5_endHour_16 : decode cX5_endHour 16 = .ok (.getfield 36, 3) := by decide +kernel
theorem dX5_endHour_19 : decode cX5_endHour 19 = .ok (.invokevirtual 162, 3) := by decide +kernel
theorem dX5_endHour_22 : decode cX5_endHour 22 = .ok (.aload_n 0, 1) := by decide +kernel
theorem dX5_endHour_23 : decode cX5_endHour 23 = .ok (.getfield 18, 3) := by decide +kernel
theorem dX5_endHour_26 : decode cX5_endHour 26 = .ok (.aload_n 0, 1) := by decide +kernel
theorem dX5_endHour_27 : decode cX5_endHour 27 = .ok (.getfield 46, 3) := by decide +kernel
theorem dX5_endHour_30 : decode cX5_endHour 30 = .ok (.invokevirtual 165, 3) := by decide +kernel
theorem dX5_endHour_33 : decode cX5_endHour 33 = .ok (.aload_n 0, 1) := by decide +kernel
theorem dX5_endHour_34 : decode cX5_endHour 34 = .ok (.dup, 1) := by decide +kernel
theorem dX5_endHour_35 : decode cX5_endHour 35 = .ok (.getfield 58, 3) := by decide +kernel
theorem dX5_endHour_38 : decode cX5_endHour 38 = .ok (.aload_n 0, 1) := by decide +kernel
theorem dX5_endHour_39 : decode cX5_endHour 39 = .ok (.getfield 18, 3) := by decide +kernel
theorem dX5_endHour_42 : decode cX5_endHour 42 = .ok (.invokevirtual 168, 3) := by decide +kernel
theorem dX5_endHour_45 : decode cX5_endHour 45 = .ok (.iadd, 1) := by decide +kernel
theorem dX5_endHour_46 : decode cX5_endHour 46 = .ok (.putfield 58, 3) := by decide +kernel
theorem dX5_endHour_49 : decode cX5_endHour 49 = .ok (.return_, 1) := by decide +kernel
set_option maxRecDepth 20000 in
theorem ggX1_measureFrom_X1_nearestOpen : GoodIn wsX1_measureFrom wsX1_nearestOpen := goodIn_ca (goodIn_r _ [14, 2, 3, 1, 25, 26, 27] (by decide +kernel) (by decide +kernel)) (goodIn_sub (fun _ h => List.mem_cons_of_mem _ (List.mem_append_right _ h)) (by decide +kernel))
set_option maxRecDepth 20000 in
theorem gX1_measureFrom_X1_nearestOpen : GoodIn wsX1_measureFrom (wsV RX1 23 RX1 yX1_nearestOpen wsX1_nearestOpen) := goodIn_app (goodIn_of _ (by decide +kernel)) ggX1_measureFrom_X1_nearestOpen
set_option maxRecDepth 20000 in
theorem ggX1_measureFrom_X6_isJunction : GoodIn wsX1_measureFrom wsX6_isJunction := goodIn_r _ [17] (by decide +kernel) (by decide +kernel)
set_option maxRecDepth 20000 in
theorem gX1_measureFrom_X6_isJunction_n27 : GoodIn wsX1_measureFrom (wsX6_isJunction) := ggX1_measureFrom_X6_isJunction
set_option maxRecDepth 20000 in
theorem ggX1_measureFrom_X4_otherEnd : GoodIn wsX1_measureFrom wsX4_otherEnd := goodIn_ca (goodIn_r _ [22, 23, 24, 28, 29, 30, 31, 32, 33, 34, 35, 36] (by decide +kernel) (by decide +kernel)) (goodIn_sub (fun _ h => List.mem_cons_of_mem _ (List.mem_append_right _ h)) (by decide +kernel))
set_option maxRecDepth 20000 in
theorem gX1_measureFrom_X4_otherEnd : GoodIn wsX1_measureFrom (wsV RX1 37 RX4 yX4_otherEnd wsX4_otherEnd) := goodIn_app (goodIn_of _ (by decide +kernel)) ggX1_measureFrom_X4_otherEnd
set_option maxRecDepth 20000 in
theorem ggX1_reachOf_X6_isJunction : GoodIn wsX1_reachOf wsX6_isJunction := goodIn_r _ [5] (by decide +kernel) (by decide +kernel)
set_option maxRecDepth 20000 in
theorem gX1_reachOf_X6_isJunction_n27 : GoodIn wsX1_reachOf (wsX6_isJunction) := ggX1_reachOf_X6_isJunction
set_option maxRecDepth 20000 in
theorem ggX1_improveAll_X1_link : GoodIn wsX1_improveAll wsX1_link := goodIn_ca (goodIn_r _ [11, 1, 12, 13, 14, 23, 24, 25] (by decide +kernel) (by decide +kernel)) (goodIn_sub (fun _ h => List.mem_cons_of_mem _ (List.mem_append_right _ h)) (by decide +kernel))
set_option maxRecDepth 20000 in
theorem gX1_improveAll_X1_link : GoodIn wsX1_improveAll (wsV RX1 55 RX1 yX1_link wsX1_link) := goodIn_app (goodIn_of _ (by decide +kernel)) ggX1_improveAll_X1_link
set_option maxRecDepth 20000 in
theorem ggX1_improveAll_X1_improveBy : GoodIn wsX1_improveAll wsX1_improveBy := goodIn_ca (goodIn_r _ [18, 1, 19, 20, 21, 10, 22, 2, 12, 13, 14, 23, 24, 25] (by decide +kernel) (by decide +kernel)) (goodIn_sub (fun _ h => List.mem_cons_of_mem _ (List.mem_append_right _ h)) (by decide +kernel))
set_option maxRecDepth 20000 in
theorem gX1_improveAll_X1_improveBy : GoodIn wsX1_improveAll (wsV RX1 59 RX1 yX1_improveBy wsX1_improveBy) := goodIn_app (goodIn_of _ (by decide +kernel)) ggX1_improveAll_X1_improveBy
set_option maxRecDepth 20000 in
theorem ggX1_link_X6_isJunction : GoodIn wsX1_link wsX6_isJunction := goodIn_r _ [4] (by decide +kernel) (by decide +kernel)
set_option maxRecDepth 20000 in
theorem gX1_link_X6_isJunction_n27 : GoodIn wsX1_link (wsX6_isJunction) := ggX1_link_X6_isJunction
set_option maxRecDepth 20000 in
theorem ggX1_improveBy_X1_between : GoodIn wsX1_improveBy wsX1_between := goodIn_ca (goodIn_r _ [6, 1, 7, 8, 9, 10, 11, 12, 13] (by decide +kernel) (by decide +kernel)) (goodIn_sub (fun _ h => List.mem_cons_of_mem _ (List.mem_append_right _ h)) (by decide +kernel))
set_option maxRecDepth 20000 in
theorem gX1_improveBy_X1_between : GoodIn wsX1_improveBy (wsV RX1 63 RX1 yX1_between wsX1_between) := goodIn_app (goodIn_of _ (by decide +kernel)) ggX1_improveBy_X1_between
set_option maxRecDepth 20000 in
theorem ggX1_between_X6_isJunction : GoodIn wsX1_between wsX6_isJunction := goodIn_r _ [5] (by decide +kernel) (by decide +kernel)
set_option maxRecDepth 20000 in
theorem gX1_between_X6_isJunction_n27 : GoodIn wsX1_between (wsX6_isJunction) := ggX1_between_X6_isJunction
set_option maxRecDepth 20000 in
theorem ggX2_waitingAt_X2_has : GoodIn wsX2_waitingAt wsX2_has := goodIn_r _ [7, 8, 9, 10, 11, 12, 13, 14] (by decide +kernel) (by decide +kernel)
set_option maxRecDepth 20000 in
theorem gX2_waitingAt_X2_has : GoodIn wsX2_waitingAt (wsV RX2 37 RX2 yX2_has wsX2_has) := goodIn_app (goodIn_of _ (by decide +kernel)) ggX2_waitingAt_X2_has
set_option maxRecDepth 20000 in
theorem ggX2_append_X2_has : GoodIn wsX2_append wsX2_has := goodIn_r _ [7, 8, 9, 10, 11, 12, 13, 14] (by decide +kernel) (by decide +kernel)
set_option maxRecDepth 20000 in
theorem gX2_append_X2_has : GoodIn wsX2_append (wsV RX2 37 RX2 yX2_has wsX2_has) := goodIn_app (goodIn_of _ (by decide +kernel)) ggX2_append_X2_has
set_option maxRecDepth 20000 in
theorem ggX2_removeLast_X2_has : GoodIn wsX2_removeLast wsX2_has := goodIn_r _ [6, 7, 13, 14, 15, 16, 17, 18] (by decide +kernel) (by decide +kernel)
set_option maxRecDepth 20000 in
theorem gX2_removeLast_X2_has : GoodIn wsX2_removeLast (wsV RX2 37 RX2 yX2_has wsX2_has) := goodIn_app (goodIn_of _ (by decide +kernel)) ggX2_removeLast_X2_has
set_option maxRecDepth 20000 in
theorem ggX2_removeLast_X2_waitingAt : GoodIn wsX2_removeLast wsX2_waitingAt := goodIn_ca (goodIn_r _ [11, 1, 12, 2, 3, 4, 5, 6, 7, 13, 14, 15, 16, 17, 18] (by decide +kernel) (by decide +kernel)) (goodIn_sub (fun _ h => List.mem_cons_of_mem _ (List.mem_append_right _ h)) (by decide +kernel))
set_option maxRecDepth 20000 in
theorem gX2_removeLast_X2_waitingAt : GoodIn wsX2_removeLast (wsV RX2 41 RX2 yX2_waitingAt wsX2_waitingAt) := goodIn_app (goodIn_of _ (by decide +kernel)) ggX2_removeLast_X2_waitingAt
set_option maxRecDepth 20000 in
theorem ggX2_canBegin_X2_has : GoodIn wsX2_canBegin wsX2_has := goodIn_r _ [7, 8, 9, 10, 11, 12, 13, 14] (by decide +kernel) (by decide +kernel)
set_option maxRecDepth 20000 in
theorem gX2_canBegin_X2_has : GoodIn wsX2_canBegin (wsV RX2 37 RX2 yX2_has wsX2_has) := goodIn_app (goodIn_of _ (by decide +kernel)) ggX2_canBegin_X2_has
set_option maxRecDepth 20000 in
theorem ggX2_removeFirst_X2_waitingAt : GoodIn wsX2_removeFirst wsX2_waitingAt := goodIn_ca (goodIn_r _ [7, 2, 1, 8, 9, 10, 6, 11, 12, 13, 14, 15, 16, 17, 18] (by decide +kernel) (by decide +kernel)) (goodIn_sub (fun _ h => List.mem_cons_of_mem _ (List.mem_append_right _ h)) (by decide +kernel))
set_option maxRecDepth 20000 in
theorem gX2_removeFirst_X2_waitingAt : GoodIn wsX2_removeFirst (wsV RX2 41 RX2 yX2_waitingAt wsX2_waitingAt) := goodIn_app (goodIn_of _ (by decide +kernel)) ggX2_removeFirst_X2_waitingAt
set_option maxRecDepth 20000 in
theorem ggX2_removeFirst_X2_has : GoodIn wsX2_removeFirst wsX2_has := goodIn_r _ [11, 12, 13, 14, 15, 16, 17, 18] (by decide +kernel) (by decide +kernel)
set_option maxRecDepth 20000 in
theorem gX2_removeFirst_X2_has : GoodIn wsX2_removeFirst (wsV RX2 37 RX2 yX2_has wsX2_has) := goodIn_app (goodIn_of _ (by decide +kernel)) ggX2_removeFirst_X2_has
set_option maxRecDepth 20000 in
theorem ggX2_begin_X2_has : GoodIn wsX2_begin wsX2_has := goodIn_r _ [8, 9, 10, 11, 12, 13, 14, 15] (by decide +kernel) (by decide +kernel)
set_option maxRecDepth 20000 in
theorem gX2_begin_X2_has : GoodIn wsX2_begin (wsV RX2 37 RX2 yX2_has wsX2_has) := goodIn_app (goodIn_of _ (by decide +kernel)) ggX2_begin_X2_has
set_option maxRecDepth 20000 in
theorem ggX2_work_X2_has : GoodIn wsX2_work wsX2_has := goodIn_r _ [7, 8, 9, 10, 11, 12, 13, 14] (by decide +kernel) (by decide +kernel)
set_option maxRecDepth 20000 in
theorem gX2_work_X2_has : GoodIn wsX2_work (wsV RX2 37 RX2 yX2_has wsX2_has) := goodIn_app (goodIn_of _ (by decide +kernel)) ggX2_work_X2_has
set_option maxRecDepth 20000 in
theorem ggX4_excess_X4_has : GoodIn wsX4_excess wsX4_has := goodIn_r _ [7, 8, 9, 10, 11, 12, 13, 14, 15, 16, 17] (by decide +kernel) (by decide +kernel)
set_option maxRecDepth 20000 in
theorem gX4_excess_X4_has : GoodIn wsX4_excess (wsV RX4 47 RX4 yX4_has wsX4_has) := goodIn_app (goodIn_of _ (by decide +kernel)) ggX4_excess_X4_has
set_option maxRecDepth 20000 in
theorem ggX4_saltLeft_X4_has : GoodIn wsX4_saltLeft wsX4_has := goodIn_r _ [6, 7, 8, 9, 10, 11, 12, 13, 14, 15, 16] (by decide +kernel) (by decide +kernel)
set_option maxRecDepth 20000 in
theorem gX4_saltLeft_X4_has : GoodIn wsX4_saltLeft (wsV RX4 47 RX4 yX4_has wsX4_has) := goodIn_app (goodIn_of _ (by decide +kernel)) ggX4_saltLeft_X4_has
set_option maxRecDepth 20000 in
theorem ggX4_timesCleared_X4_has : GoodIn wsX4_timesCleared wsX4_has := goodIn_r _ [6, 7, 8, 9, 10, 11, 12, 13, 14, 15, 16] (by decide +kernel) (by decide +kernel)
set_option maxRecDepth 20000 in
theorem gX4_timesCleared_X4_has : GoodIn wsX4_timesCleared (wsV RX4 47 RX4 yX4_has wsX4_has) := goodIn_app (goodIn_of _ (by decide +kernel)) ggX4_timesCleared_X4_has
set_option maxRecDepth 20000 in
theorem ggX4_atRank_X4_rankOf : GoodIn wsX4_atRank wsX4_rankOf := goodIn_ca (goodIn_r _ [6, 1, 7, 8, 9, 5, 10, 11, 12, 13, 14, 15, 16, 17, 18, 19, 20, 21, 22, 23, 24, 25, 26, 27, 28, 29] (by decide +kernel) (by decide +kernel)) (goodIn_sub (fun _ h => List.mem_cons_of_mem _ (List.mem_append_right _ h)) (by decide +kernel))
set_option maxRecDepth 20000 in
theorem gX4_atRank_X4_rankOf : GoodIn wsX4_atRank (wsV RX4 51 RX4 yX4_rankOf wsX4_rankOf) := goodIn_app (goodIn_of _ (by decide +kernel)) ggX4_atRank_X4_rankOf
set_option maxRecDepth 20000 in
theorem ggX4_rankOf_X4_precedes : GoodIn wsX4_rankOf wsX4_precedes := goodIn_ca (goodIn_r _ [6, 7, 8, 9, 10, 5, 11, 1, 12, 13, 14, 15, 16, 17, 18, 19, 20, 21, 22, 23, 24, 25] (by decide +kernel) (by decide +kernel)) (goodIn_sub (fun _ h => List.mem_cons_of_mem _ (List.mem_append_right _ h)) (by decide +kernel))
set_option maxRecDepth 20000 in
theorem gX4_rankOf_X4_precedes : GoodIn wsX4_rankOf (wsV RX4 55 RX4 yX4_precedes wsX4_precedes) := goodIn_app (goodIn_of _ (by decide +kernel)) ggX4_rankOf_X4_precedes
set_option maxRecDepth 20000 in
theorem ggX4_precedes_X4_has : GoodIn wsX4_precedes wsX4_has := goodIn_r _ [6, 7, 13, 14, 15, 16, 17, 18, 19, 20, 21] (by decide +kernel) (by decide +kernel)
set_option maxRecDepth 20000 in
theorem gX4_precedes_X4_has : GoodIn wsX4_precedes (wsV RX4 47 RX4 yX4_has wsX4_has) := goodIn_app (goodIn_of _ (by decide +kernel)) ggX4_precedes_X4_has
set_option maxRecDepth 20000 in
theorem ggX4_precedes_X4_excess : GoodIn wsX4_precedes wsX4_excess := goodIn_ca (goodIn_r _ [11, 1, 12, 2, 3, 4, 5, 6, 7, 13, 14, 15, 16, 17, 18, 19, 20, 21] (by decide +kernel) (by decide +kernel)) (goodIn_sub (fun _ h => List.mem_cons_of_mem _ (List.mem_append_right _ h)) (by decide +kernel))
set_option maxRecDepth 20000 in
theorem gX4_precedes_X4_excess : GoodIn wsX4_precedes (wsV RX4 59 RX4 yX4_excess wsX4_excess) := goodIn_app (goodIn_of _ (by decide +kernel)) ggX4_precedes_X4_excess
set_option maxRecDepth 20000 in
theorem ggX4_saltedCount_X4_saltLeft : GoodIn wsX4_saltedCount wsX4_saltLeft := goodIn_ca (goodIn_r _ [6, 7, 8, 9, 10, 5, 11, 1, 12, 13, 14, 15, 16, 17, 18, 19, 20] (by decide +kernel) (by decide +kernel)) (goodIn_sub (fun _ h => List.mem_cons_of_mem _ (List.mem_append_right _ h)) (by decide +kernel))
set_option maxRecDepth 20000 in
theorem gX4_saltedCount_X4_saltLeft : GoodIn wsX4_saltedCount (wsV RX4 62 RX4 yX4_saltLeft wsX4_saltLeft) := goodIn_app (goodIn_of _ (by decide +kernel)) ggX4_saltedCount_X4_saltLeft
set_option maxRecDepth 20000 in
theorem ggX4_drift_X4_has : GoodIn wsX4_drift wsX4_has := goodIn_r _ [11, 1, 12, 13, 14, 15, 16, 17, 18, 19, 20] (by decide +kernel) (by decide +kernel)
set_option maxRecDepth 20000 in
theorem gX4_drift_X4_has : GoodIn wsX4_drift (wsV RX4 47 RX4 yX4_has wsX4_has) := goodIn_app (goodIn_of _ (by decide +kernel)) ggX4_drift_X4_has
set_option maxRecDepth 20000 in
theorem ggX4_complain_X4_excess : GoodIn wsX4_complain wsX4_excess := goodIn_ca (goodIn_r _ [7, 8, 9, 10, 11, 12, 6, 13, 1, 14, 15, 16, 17, 18, 19, 20, 21, 22] (by decide +kernel) (by decide +kernel)) (goodIn_sub (fun _ h => List.mem_cons_of_mem _ (List.mem_append_right _ h)) (by decide +kernel))
set_option maxRecDepth 20000 in
theorem gX4_complain_X4_excess : GoodIn wsX4_complain (wsV RX4 59 RX4 yX4_excess wsX4_excess) := goodIn_app (goodIn_of _ (by decide +kernel)) ggX4_complain_X4_excess
set_option maxRecDepth 20000 in
theorem ggX5_init_X4_init : GoodIn wsX5_init wsX4_init := goodIn_r _ [14, 15, 2, 3, 16, 17, 18, 19, 20, 21, 22, 23, 24, 25, 45, 46, 47, 48, 49, 50, 51, 52, 53] (by decide +kernel) (by decide +kernel)
set_option maxRecDepth 20000 in
theorem gX5_init_X4_init_n17 : GoodIn wsX5_init (wsX4_init) := ggX5_init_X4_init
set_option maxRecDepth 20000 in
theorem ggX5_init_X2_init : GoodIn wsX5_init wsX2_init := goodIn_r _ [27, 28, 2, 3, 16, 29, 30, 31, 32, 33, 54, 55, 56, 57, 58, 59] (by decide +kernel) (by decide +kernel)
set_option maxRecDepth 20000 in
theorem gX5_init_X2_init_n24 : GoodIn wsX5_init (wsX2_init) := ggX5_init_X2_init
set_option maxRecDepth 20000 in
theorem ggX5_copyFrom_X4_copyFrom : GoodIn wsX5_copyFrom wsX4_copyFrom := goodIn_r _ [15, 16, 17, 18, 19, 20, 21, 22, 23, 24, 25, 26, 27, 28, 52, 53, 54, 55, 56, 57, 58, 59, 60] (by decide +kernel) (by decide +kernel)
set_option maxRecDepth 20000 in
theorem gX5_copyFrom_X4_copyFrom : GoodIn wsX5_copyFrom (wsV RX5 29 RX4 yX4_copyFrom wsX4_copyFrom) := goodIn_app (goodIn_of _ (by decide +kernel)) ggX5_copyFrom_X4_copyFrom
set_option maxRecDepth 20000 in
theorem ggX5_copyFrom_X2_copyFrom : GoodIn wsX5_copyFrom wsX2_copyFrom := goodIn_r _ [33, 34, 35, 18, 19, 20, 36, 37, 38, 39, 40, 61, 62, 63, 64, 65, 66] (by decide +kernel) (by decide +kernel)
set_option maxRecDepth 20000 in
theorem gX5_copyFrom_X2_copyFrom : GoodIn wsX5_copyFrom (wsV RX5 33 RX2 yX2_copyFrom wsX2_copyFrom) := goodIn_app (goodIn_of _ (by decide +kernel)) ggX5_copyFrom_X2_copyFrom
set_option maxRecDepth 20000 in
theorem ggX5_putStreet_X6_isJunction : GoodIn wsX5_putStreet wsX6_isJunction := goodIn_r _ [11] (by decide +kernel) (by decide +kernel)
set_option maxRecDepth 20000 in
theorem gX5_putStreet_X6_isJunction_n61 : GoodIn wsX5_putStreet (wsX6_isJunction) := ggX5_putStreet_X6_isJunction
set_option maxRecDepth 20000 in
theorem ggX5_putStreet_X4_areConnected : GoodIn wsX5_putStreet wsX4_areConnected := goodIn_ca (goodIn_r _ [16, 17, 18, 19, 41, 42, 43, 44, 45, 46, 47, 48, 49] (by decide +kernel) (by decide +kernel)) (goodIn_sub (fun _ h => List.mem_cons_of_mem _ (List.mem_append_right _ h)) (by decide +kernel))
set_option maxRecDepth 20000 in
theorem gX5_putStreet_X4_areConnected : GoodIn wsX5_putStreet (wsV RX5 74 RX4 yX4_areConnected wsX4_areConnected) := goodIn_app (goodIn_of _ (by decide +kernel)) ggX5_putStreet_X4_areConnected
set_option maxRecDepth 20000 in
theorem ggX5_putStreet_X4_put : GoodIn wsX5_putStreet wsX4_put := goodIn_ca (goodIn_r _ [23, 17, 18, 19, 24, 25, 26, 27, 28, 29, 41, 42, 43, 44, 45, 46, 47, 48, 49] (by decide +kernel) (by decide +kernel)) (goodIn_sub (fun _ h => List.mem_cons_of_mem _ (List.mem_append_right _ h)) (by decide +kernel))
set_option maxRecDepth 20000 in
theorem gX5_putStreet_X4_put : GoodIn wsX5_putStreet (wsV RX5 78 RX4 yX4_put wsX4_put) := goodIn_app (goodIn_of _ (by decide +kernel)) ggX5_putStreet_X4_put
set_option maxRecDepth 20000 in
theorem ggX5_putPlough_X6_isJunction : GoodIn wsX5_putPlough wsX6_isJunction := goodIn_r _ [4] (by decide +kernel) (by decide +kernel)
set_option maxRecDepth 20000 in
theorem gX5_putPlough_X6_isJunction_n61 : GoodIn wsX5_putPlough (wsX6_isJunction) := ggX5_putPlough_X6_isJunction
set_option maxRecDepth 20000 in
theorem ggX5_putPlough_X2_put : GoodIn wsX5_putPlough wsX2_put := goodIn_ca (goodIn_r _ [9, 10, 11, 12, 13, 14, 26, 27, 28, 29, 30, 31] (by decide +kernel) (by decide +kernel)) (goodIn_sub (fun _ h => List.mem_cons_of_mem _ (List.mem_append_right _ h)) (by decide +kernel))
set_option maxRecDepth 20000 in
theorem gX5_putPlough_X2_put : GoodIn wsX5_putPlough (wsV RX5 82 RX2 yX2_put wsX2_put) := goodIn_app (goodIn_of _ (by decide +kernel)) ggX5_putPlough_X2_put
set_option maxRecDepth 20000 in
theorem ggX5_appendOrder_X4_has : GoodIn wsX5_appendOrder wsX4_has := goodIn_r _ [7, 8, 32, 33, 34, 35, 36, 37, 38, 39, 40] (by decide +kernel) (by decide +kernel)
set_option maxRecDepth 20000 in
theorem gX5_appendOrder_X4_has : GoodIn wsX5_appendOrder (wsV RX5 85 RX4 yX4_has wsX4_has) := goodIn_app (goodIn_of _ (by decide +kernel)) ggX5_appendOrder_X4_has
set_option maxRecDepth 20000 in
theorem ggX5_appendOrder_X2_append : GoodIn wsX5_appendOrder wsX2_append := goodIn_ca (goodIn_r _ [13, 14, 15, 16, 17, 18, 12, 19, 20, 41, 42, 43, 44, 45, 46] (by decide +kernel) (by decide +kernel)) (goodIn_sub (fun _ h => List.mem_cons_of_mem _ (List.mem_append_right _ h)) (by decide +kernel))
set_option maxRecDepth 20000 in
theorem gX5_appendOrder_X2_append : GoodIn wsX5_appendOrder (wsV RX5 88 RX2 yX2_append wsX2_append) := goodIn_app (goodIn_of _ (by decide +kernel)) ggX5_appendOrder_X2_append
set_option maxRecDepth 20000 in
theorem ggX5_removeOrder_X2_removeLast : GoodIn wsX5_removeOrder wsX2_removeLast := goodIn_ca (goodIn_r _ [6, 7, 8, 9, 10, 5, 11, 12, 13, 14, 15, 16, 17, 29, 30, 31, 32, 33, 34] (by decide +kernel) (by decide +kernel)) (goodIn_sub (fun _ h => List.mem_cons_of_mem _ (List.mem_append_right _ h)) (by decide +kernel))
set_option maxRecDepth 20000 in
theorem gX5_removeOrder_X2_removeLast : GoodIn wsX5_removeOrder (wsV RX5 91 RX2 yX2_removeLast wsX2_removeLast) := goodIn_app (goodIn_of _ (by decide +kernel)) ggX5_removeOrder_X2_removeLast
set_option maxRecDepth 20000 in
theorem ggX5_spreadSalt_X4_has : GoodIn wsX5_spreadSalt wsX4_has := goodIn_r _ [10, 11, 29, 30, 31, 32, 33, 34, 35, 36, 37] (by decide +kernel) (by decide +kernel)
set_option maxRecDepth 20000 in
theorem gX5_spreadSalt_X4_has : GoodIn wsX5_spreadSalt (wsV RX5 85 RX4 yX4_has wsX4_has) := goodIn_app (goodIn_of _ (by decide +kernel)) ggX5_spreadSalt_X4_has
set_option maxRecDepth 20000 in
theorem ggX5_spreadSalt_X4_saltLeft : GoodIn wsX5_spreadSalt wsX4_saltLeft := goodIn_ca (goodIn_r _ [15, 16, 17, 7, 8, 9, 10, 11, 29, 30, 31, 32, 33, 34, 35, 36, 37] (by decide +kernel) (by decide +kernel)) (goodIn_sub (fun _ h => List.mem_cons_of_mem _ (List.mem_append_right _ h)) (by decide +kernel))
set_option maxRecDepth 20000 in
theorem gX5_spreadSalt_X4_saltLeft : GoodIn wsX5_spreadSalt (wsV RX5 94 RX4 yX4_saltLeft wsX4_saltLeft) := goodIn_app (goodIn_of _ (by decide +kernel)) ggX5_spreadSalt_X4_saltLeft
set_option maxRecDepth 20000 in
theorem ggX5_passMinutes_X2_canBegin : GoodIn wsX5_passMinutes wsX2_canBegin := goodIn_ca (goodIn_r _ [9, 10, 11, 12, 13, 14, 8, 15, 16, 146, 147, 148, 149, 150, 151] (by decide +kernel) (by decide +kernel)) (goodIn_sub (fun _ h => List.mem_cons_of_mem _ (List.mem_append_right _ h)) (by decide +kernel))
set_option maxRecDepth 20000 in
theorem gX5_passMinutes_X2_canBegin : GoodIn wsX5_passMinutes (wsV RX5 107 RX2 yX2_canBegin wsX2_canBegin) := goodIn_app (goodIn_of _ (by decide +kernel)) ggX5_passMinutes_X2_canBegin
set_option maxRecDepth 20000 in
theorem ggX5_passMinutes_X5_beginOrder : GoodIn wsX5_passMinutes wsX5_beginOrder := goodIn_ca (goodIn_r _ [21, 3, 22, 23, 24, 25, 26, 27, 28, 29, 30, 8, 31, 32, 11, 33, 34, 35, 36, 12, 13, 14, 15, 16, 37, 38, 39, 20, 40, 41, 42, 43, 44, 45, 46, 47, 48, 49, 50, 51, 52, 53, 54, 55, 56, 57, 58, 59, 60, 61, 62, 63, 64, 65, 66, 67, 68, 69, 70, 71, 72, 73, 74, 75, 76, 77, 78, 79, 80, 81, 82, 83, 84, 85, 86, 10, 87, 135, 136, 137, 138, 139, 140, 141, 142, 143, 144, 145, 152, 153, 154, 155, 156, 157, 158, 159, 160, 146, 147, 148, 149, 150, 151, 161, 162, 163] (by decide +kernel) (by decide +kernel)) (goodIn_sub (fun _ h => List.mem_cons_of_mem _ (List.mem_append_right _ h)) (by decide +kernel))
set_option maxRecDepth 20000 in
theorem gX5_passMinutes_X5_beginOrder : GoodIn wsX5_passMinutes (wsV RX5 110 RX5 yX5_beginOrder wsX5_beginOrder) := goodIn_app (goodIn_of _ (by decide +kernel)) ggX5_passMinutes_X5_beginOrder
set_option maxRecDepth 20000 in
theorem ggX5_passMinutes_X2_work : GoodIn wsX5_passMinutes wsX2_work := goodIn_ca (goodIn_r _ [91, 10, 86, 12, 13, 14, 8, 15, 16, 146, 147, 148, 149, 150, 151] (by decide +kernel) (by decide +kernel)) (goodIn_sub (fun _ h => List.mem_cons_of_mem _ (List.mem_append_right _ h)) (by decide +kernel))
set_option maxRecDepth 20000 in
theorem gX5_passMinutes_X2_work : GoodIn wsX5_passMinutes (wsV RX5 114 RX2 yX2_work wsX2_work) := goodIn_app (goodIn_of _ (by decide +kernel)) ggX5_passMinutes_X2_work
set_option maxRecDepth 20000 in
theorem ggX5_passMinutes_X5_clearStreet : GoodIn wsX5_passMinutes wsX5_clearStreet := goodIn_ca (goodIn_r _ [95, 23, 96, 97, 1, 98, 48, 49, 50, 51, 52, 53, 135, 136, 137, 138, 139, 140, 141, 142, 143, 144, 145, 152, 153, 154, 155, 156, 157, 158, 159, 160] (by decide +kernel) (by decide +kernel)) (goodIn_sub (fun _ h => List.mem_cons_of_mem _ (List.mem_append_right _ h)) (by decide +kernel))
set_option maxRecDepth 20000 in
theorem gX5_passMinutes_X5_clearStreet : GoodIn wsX5_passMinutes (wsV RX5 117 RX5 yX5_clearStreet wsX5_clearStreet) := goodIn_app (goodIn_of _ (by decide +kernel)) ggX5_passMinutes_X5_clearStreet
set_option maxRecDepth 20000 in
theorem ggX5_passMinutes_X5_endHour : GoodIn wsX5_passMinutes wsX5_endHour := goodIn_ca (goodIn_r _ [102, 23, 103, 2, 104, 105, 106, 107, 108, 51, 109, 53, 110, 111, 43, 44, 45, 112, 113, 114, 115, 116, 117, 118, 119, 120, 121, 122, 123, 124, 49, 50, 52, 125, 126, 127, 128, 129, 130, 131, 132, 133, 134, 135, 136, 137, 138, 139, 140, 141, 142, 143, 144, 145, 152, 153, 154, 155, 156, 157, 158, 159, 160] (by decide +kernel) (by decide +kernel)) (goodIn_sub (fun _ h => List.mem_cons_of_mem _ (List.mem_append_right _ h)) (by decide +kernel))
set_option maxRecDepth 20000 in
theorem gX5_passMinutes_X5_endHour : GoodIn wsX5_passMinutes (wsV RX5 120 RX5 yX5_endHour wsX5_endHour) := goodIn_app (goodIn_of _ (by decide +kernel)) ggX5_passMinutes_X5_endHour
set_option maxRecDepth 20000 in
theorem ggX5_beginOrder_X2_removeFirst : GoodIn wsX5_beginOrder wsX2_removeFirst := goodIn_ca (goodIn_r _ [12, 13, 14, 15, 16, 17, 11, 18, 19, 20, 21, 22, 23, 97, 98, 99, 100, 101, 102] (by decide +kernel) (by decide +kernel)) (goodIn_sub (fun _ h => List.mem_cons_of_mem _ (List.mem_append_right _ h)) (by decide +kernel))
set_option maxRecDepth 20000 in
theorem gX5_beginOrder_X2_removeFirst : GoodIn wsX5_beginOrder (wsV RX5 123 RX2 yX2_removeFirst wsX2_removeFirst) := goodIn_app (goodIn_of _ (by decide +kernel)) ggX5_beginOrder_X2_removeFirst
set_option maxRecDepth 20000 in
theorem ggX5_beginOrder_X5_minutesFor : GoodIn wsX5_beginOrder wsX5_minutesFor := goodIn_ca (goodIn_r _ [28, 1, 3, 2, 7, 29, 5, 6, 30, 31, 32, 33, 34, 35, 20, 21, 11, 22, 23, 36, 37, 38, 39, 40, 41, 42, 43, 44, 45, 46, 47, 48, 49, 50, 51, 52, 53, 54, 55, 56, 57, 58, 59, 60, 61, 62, 63, 64, 65, 66, 67, 68, 69, 77, 78, 79, 80, 81, 82, 83, 84, 85, 86, 87, 97, 98, 99, 100, 101, 102, 88, 89, 90, 91, 92, 93, 94, 95, 96, 103, 104, 105] (by decide +kernel) (by decide +kernel)) (goodIn_sub (fun _ h => List.mem_cons_of_mem _ (List.mem_append_right _ h)) (by decide +kernel))
set_option maxRecDepth 20000 in
theorem gX5_beginOrder_X5_minutesFor : GoodIn wsX5_beginOrder (wsV RX5 126 RX5 yX5_minutesFor wsX5_minutesFor) := goodIn_app (goodIn_of _ (by decide +kernel)) ggX5_beginOrder_X5_minutesFor
set_option maxRecDepth 20000 in
theorem ggX5_beginOrder_X4_has : GoodIn wsX5_beginOrder wsX4_has := goodIn_r _ [40, 41, 88, 89, 90, 91, 92, 93, 94, 95, 96] (by decide +kernel) (by decide +kernel)
set_option maxRecDepth 20000 in
theorem gX5_beginOrder_X4_has : GoodIn wsX5_beginOrder (wsV RX5 85 RX4 yX4_has wsX4_has) := goodIn_app (goodIn_of _ (by decide +kernel)) ggX5_beginOrder_X4_has
set_option maxRecDepth 20000 in
theorem ggX5_beginOrder_X1_reachOf : GoodIn wsX5_beginOrder wsX1_reachOf := goodIn_ca (goodIn_r _ [69, 47, 48, 57, 58, 59, 103, 104, 105] (by decide +kernel) (by decide +kernel)) (goodIn_sub (fun _ h => List.mem_cons_of_mem _ (List.mem_append_right _ h)) (by decide +kernel))
set_option maxRecDepth 20000 in
theorem gX5_beginOrder_X1_reachOf : GoodIn wsX5_beginOrder (wsV RX5 136 RX1 yX1_reachOf wsX1_reachOf) := goodIn_app (goodIn_of _ (by decide +kernel)) ggX5_beginOrder_X1_reachOf
set_option maxRecDepth 20000 in
theorem ggX5_beginOrder_X2_begin : GoodIn wsX5_beginOrder wsX2_begin := goodIn_ca (goodIn_r _ [73, 74, 75, 76, 19, 20, 21, 11, 22, 23, 97, 98, 99, 100, 101, 102] (by decide +kernel) (by decide +kernel)) (goodIn_sub (fun _ h => List.mem_cons_of_mem _ (List.mem_append_right _ h)) (by decide +kernel))
set_option maxRecDepth 20000 in
theorem gX5_beginOrder_X2_begin : GoodIn wsX5_beginOrder (wsV RX5 141 RX2 yX2_begin wsX2_begin) := goodIn_app (goodIn_of _ (by decide +kernel)) ggX5_beginOrder_X2_begin
set_option maxRecDepth 20000 in
theorem ggX5_minutesFor_X2_has : GoodIn wsX5_minutesFor wsX2_has := goodIn_r _ [17, 18, 64, 65, 66, 67, 68, 69] (by decide +kernel) (by decide +kernel)
set_option maxRecDepth 20000 in
theorem gX5_minutesFor_X2_has : GoodIn wsX5_minutesFor (wsV RX5 145 RX2 yX2_has wsX2_has) := goodIn_app (goodIn_of _ (by decide +kernel)) ggX5_minutesFor_X2_has
set_option maxRecDepth 20000 in
theorem ggX5_minutesFor_X4_has : GoodIn wsX5_minutesFor wsX4_has := goodIn_r _ [23, 24, 70, 71, 72, 73, 74, 75, 76, 77, 78] (by decide +kernel) (by decide +kernel)
set_option maxRecDepth 20000 in
theorem gX5_minutesFor_X4_has : GoodIn wsX5_minutesFor (wsV RX5 85 RX4 yX4_has wsX4_has) := goodIn_app (goodIn_of _ (by decide +kernel)) ggX5_minutesFor_X4_has
set_option maxRecDepth 20000 in
theorem ggX5_minutesFor_X1_measureFrom : GoodIn wsX5_minutesFor wsX1_measureFrom := goodIn_ca (goodIn_r _ [29, 30, 31, 32, 33, 34, 35, 9, 10, 11, 36, 37, 38, 28, 39, 40, 41, 42, 43, 44, 45, 22, 46, 47, 48, 79, 80, 81, 70, 71, 72, 73, 74, 75, 76, 77, 78] (by decide +kernel) (by decide +kernel)) (goodIn_sub (fun _ h => List.mem_cons_of_mem _ (List.mem_append_right _ h)) (by decide +kernel))
set_option maxRecDepth 20000 in
theorem gX5_minutesFor_X1_measureFrom : GoodIn wsX5_minutesFor (wsV RX5 149 RX1 yX1_measureFrom wsX1_measureFrom) := goodIn_app (goodIn_of _ (by decide +kernel)) ggX5_minutesFor_X1_measureFrom
set_option maxRecDepth 20000 in
theorem ggX5_minutesFor_X1_reachOf : GoodIn wsX5_minutesFor wsX1_reachOf := goodIn_ca (goodIn_r _ [52, 30, 31, 40, 41, 42, 79, 80, 81] (by decide +kernel) (by decide +kernel)) (goodIn_sub (fun _ h => List.mem_cons_of_mem _ (List.mem_append_right _ h)) (by decide +kernel))
set_option maxRecDepth 20000 in
theorem gX5_minutesFor_X1_reachOf : GoodIn wsX5_minutesFor (wsV RX5 136 RX1 yX1_reachOf wsX1_reachOf) := goodIn_app (goodIn_of _ (by decide +kernel)) ggX5_minutesFor_X1_reachOf
set_option maxRecDepth 20000 in
theorem ggX5_clearStreet_X4_has : GoodIn wsX5_clearStreet wsX4_has := goodIn_r _ [10, 11, 23, 24, 25, 26, 27, 28, 29, 30, 31] (by decide +kernel) (by decide +kernel)
set_option maxRecDepth 20000 in
theorem gX5_clearStreet_X4_has : GoodIn wsX5_clearStreet (wsV RX5 85 RX4 yX4_has wsX4_has) := goodIn_app (goodIn_of _ (by decide +kernel)) ggX5_clearStreet_X4_has
set_option maxRecDepth 20000 in
theorem ggX5_endHour_X4_fall : GoodIn wsX5_endHour wsX4_fall := goodIn_ca (goodIn_r _ [10, 11, 12, 13, 14, 15, 16, 54, 55, 56, 57, 58, 59, 60, 61, 62] (by decide +kernel) (by decide +kernel)) (goodIn_sub (fun _ h => List.mem_cons_of_mem _ (List.mem_append_right _ h)) (by decide +kernel))
set_option maxRecDepth 20000 in
theorem gX5_endHour_X4_fall : GoodIn wsX5_endHour (wsV RX5 159 RX4 yX4_fall wsX4_fall) := goodIn_app (goodIn_of _ (by decide +kernel)) ggX5_endHour_X4_fall
set_option maxRecDepth 20000 in
theorem ggX5_endHour_X4_melt : GoodIn wsX5_endHour wsX4_melt := goodIn_ca (goodIn_r _ [20, 11, 21, 12, 22, 23, 15, 24, 54, 55, 56, 57, 58, 59, 60, 61, 62] (by decide +kernel) (by decide +kernel)) (goodIn_sub (fun _ h => List.mem_cons_of_mem _ (List.mem_append_right _ h)) (by decide +kernel))
set_option maxRecDepth 20000 in
theorem gX5_endHour_X4_melt : GoodIn wsX5_endHour (wsV RX5 162 RX4 yX4_melt wsX4_melt) := goodIn_app (goodIn_of _ (by decide +kernel)) ggX5_endHour_X4_melt
set_option maxRecDepth 20000 in
theorem ggX5_endHour_X4_drift : GoodIn wsX5_endHour wsX4_drift := goodIn_ca (goodIn_r _ [28, 11, 12, 13, 14, 15, 16, 29, 30, 31, 9, 32, 54, 55, 56, 57, 58, 59, 60, 61, 62] (by decide +kernel) (by decide +kernel)) (goodIn_sub (fun _ h => List.mem_cons_of_mem _ (List.mem_append_right _ h)) (by decide +kernel))
set_option maxRecDepth 20000 in
theorem gX5_endHour_X4_drift : GoodIn wsX5_endHour (wsV RX5 165 RX4 yX4_drift wsX4_drift) := goodIn_app (goodIn_of _ (by decide +kernel)) ggX5_endHour_X4_drift
set_option maxRecDepth 20000 in
theorem ggX5_endHour_X4_complain : GoodIn wsX5_endHour wsX4_complain := goodIn_ca (goodIn_r _ [36, 11, 37, 38, 39, 40, 9, 41, 42, 12, 29, 30, 31, 32, 54, 55, 56, 57, 58, 59, 60, 61, 62] (by decide +kernel) (by decide +kernel)) (goodIn_sub (fun _ h => List.mem_cons_of_mem _ (List.mem_append_right _ h)) (by decide +kernel))
set_option maxRecDepth 20000 in
theorem gX5_endHour_X4_complain : GoodIn wsX5_endHour (wsV RX5 168 RX4 yX4_complain wsX4_complain) := goodIn_app (goodIn_of _ (by decide +kernel)) ggX5_endHour_X4_complain
theorem dX6_isJunction_0 : decode cX6_isJunction 0 = .ok (.iload_n 0, 1) := by decide +kernel
theorem dX6_isJunction_1 : decode cX6_isJunction 1 = .ok (.ifCond .lt 13, 3) := by decide +kernel
theorem dX6_isJunction_4 : decode cX6_isJunction 4 = .ok (.iload_n 0, 1) := by decide +kernel
theorem dX6_isJunction_5 : decode cX6_isJunction 5 = .ok (.bipush 8, 2) := by decide +kernel
theorem dX6_isJunction_7 : decode cX6_isJunction 7 = .ok (.if_icmp .ge 7, 3) := by decide +kernel
theorem dX6_isJunction_10 : decode cX6_isJunction 10 = .ok (.iconst 1, 1) := by decide +kernel
theorem dX6_isJunction_11 : decode cX6_isJunction 11 = .ok (.goto 4, 3) := by decide +kernel
theorem dX6_isJunction_14 : decode cX6_isJunction 14 = .ok (.iconst 0, 1) := by decide +kernel
theorem dX6_isJunction_15 : decode cX6_isJunction 15 = .ok (.ireturn, 1) := by decide +kernel
