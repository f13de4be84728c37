theorem dX1_init_0 : decode cX1_init 0 = .ok (.aload_n 0, 1) := by decide +kernel
theorem dX1_init_1 : decode cX1_init 1 = .ok (.invokespecial 3, 3) := by decide +kernel
theorem dX1_init_4 : decode cX1_init 4 = .ok (.aload_n 0, 1) := by decide +kernel
theorem dX1_init_5 : decode cX1_init 5 = .ok (.bipush 8, 2) := by decide +kernel
theorem dX1_init_7 : decode cX1_init 7 = .ok (.newarray .int, 2) := by decide +kernel
theorem dX1_init_9 : decode cX1_init 9 = .ok (.putfield 9, 3) := by decide +kernel
theorem dX1_init_12 : decode cX1_init 12 = .ok (.aload_n 0, 1) := by decide +kernel
theorem dX1_init_13 : decode cX1_init 13 = .ok (.bipush 8, 2) := by decide +kernel
theorem dX1_init_15 : decode cX1_init 15 = .ok (.newarray .boolean, 2) := by decide +kernel
theorem dX1_init_17 : decode cX1_init 17 = .ok (.putfield 15, 3) := by decide +kernel
theorem dX1_init_20 : decode cX1_init 20 = .ok (.aload_n 0, 1) := by decide +kernel
theorem dX1_init_21 : decode cX1_init 21 = .ok (.bipush 64, 2) := by decide +kernel
theorem dX1_init_23 : decode cX1_init 23 = .ok (.newarray .int, 2) := by decide +kernel
theorem dX1_init_25 : decode cX1_init 25 = .ok (.putfield 19, 3) := by decide +kernel
theorem dX1_init_28 : decode cX1_init 28 = .ok (.return_, 1) := by decide +kernel
theorem dX1_measureFrom_0 : decode cX1_measureFrom 0 = .ok (.iconst 0, 1) := by decide +kernel
theorem dX1_measureFrom_1 : decode cX1_measureFrom 1 = .ok (.istore_n 3, 1) := by decide +kernel
theorem dX1_measureFrom_2 : decode cX1_measureFrom 2 = .ok (.iload_n 3, 1) := by decide +kernel
theorem dX1_measureFrom_3 : decode cX1_measureFrom 3 = .ok (.bipush 8, 2) := by decide +kernel
theorem dX1_measureFrom_5 : decode cX1_measureFrom 5 = .ok (.if_icmp .ge 33, 3) := by decide +kernel
theorem dX1_measureFrom_8 : decode cX1_measureFrom 8 = .ok (.aload_n 0, 1) := by decide +kernel
theorem dX1_measureFrom_9 : decode cX1_measureFrom 9 = .ok (.getfield 9, 3) := by decide +kernel
theorem dX1_measureFrom_12 : decode cX1_measureFrom 12 = .ok (.iload_n 3, 1) := by decide +kernel
theorem dX1_measureFrom_13 : decode cX1_measureFrom 13 = .ok (.iload_n 3, 1) := by decide +kernel
theorem dX1_measureFrom_14 : decode cX1_measureFrom 14 = .ok (.iload_n 1, 1) := by decide +kernel
theorem dX1_measureFrom_15 : decode cX1_measureFrom 15 = .ok (.if_icmp .ne 7, 3) := by decide +kernel
theorem dX1_measureFrom_18 : decode cX1_measureFrom 18 = .ok (.iconst 0, 1) := by decide +kernel
theorem dX1_measureFrom_19 : decode cX1_measureFrom 19 = .ok (.goto 5, 3) := by decide +kernel
theorem dX1_measureFrom_22 : decode cX1_measureFrom 22 = .ok (.ldc 22, 2) := by decide +kernel
theorem dX1_measureFrom_24 : decode cX1_measureFrom 24 = .ok (.iastore, 1) := by decide +kernel
theorem dX1_measureFrom_25 : decode cX1_measureFrom 25 = .ok (.aload_n 0, 1) := by decide +kernel
theorem dX1_measureFrom_26 : decode cX1_measureFrom 26 = .ok (.getfield 15, 3) := by decide +kernel
theorem dX1_measureFrom_29 : decode cX1_measureFrom 29 = .ok (.iload_n 3, 1) := by decide +kernel
theorem dX1_measureFrom_30 : decode cX1_measureFrom 30 = .ok (.iconst 0, 1) := by decide +kernel
theorem dX1_measureFrom_31 : decode cX1_measureFrom 31 = .ok (.bastore, 1) := by decide +kernel
theorem dX1_measureFrom_32 : decode cX1_measureFrom 32 = .ok (.iinc 3 1, 3) := by decide +kernel
theorem dX1_measureFrom_35 : decode cX1_measureFrom 35 = .ok (.goto (-33), 3) := by decide +kernel
theorem dX1_measureFrom_38 : decode cX1_measureFrom 38 = .ok (.iconst 0, 1) := by decide +kernel
theorem dX1_measureFrom_39 : decode cX1_measureFrom 39 = .ok (.istore_n 3, 1) := by decide +kernel
theorem dX1_measureFrom_40 : decode cX1_measureFrom 40 = .ok (.iload_n 3, 1) := by decide +kernel
theorem dX1_measureFrom_41 : decode cX1_measureFrom 41 = .ok (.bipush 8, 2) := by decide +kernel
theorem dX1_measureFrom_43 : decode cX1_measureFrom 43 = .ok (.if_icmp .ge 107, 3) := by decide +kernel
theorem dX1_measureFrom_46 : decode cX1_measureFrom 46 = .ok (.aload_n 0, 1) := by decide +kernel
theorem dX1_measureFrom_47 : decode cX1_measureFrom 47 = .ok (.invokevirtual 23, 3) := by decide +kernel
theorem dX1_measureFrom_50 : decode cX1_measureFrom 50 = .ok (.istore 4, 2) := by decide +kernel
theorem dX1_measureFrom_52 : decode cX1_measureFrom 52 = .ok (.iload 4, 2) := by decide +kernel
theorem dX1_measureFrom_54 : decode cX1_measureFrom 54 = .ok (.invokestatic 27, 3) := by decide +kernel
theorem dX1_measureFrom_57 : decode cX1_measureFrom 57 = .ok (.ifCond .ne 4, 3) := by decide +kernel
theorem dX1_measureFrom_60 : decode cX1_measureFrom 60 = .ok (.return_, 1) := by decide +kernel
theorem dX1_measureFrom_61 : decode cX1_measureFrom 61 = .ok (.aload_n 0, 1) := by decide +kernel
theorem dX1_measureFrom_62 : decode cX1_measureFrom 62 = .ok (.getfield 15, 3) := by decide +kernel
theorem dX1_measureFrom_65 : decode cX1_measureFrom 65 = .ok (.iload 4, 2) := by decide +kernel
theorem dX1_measureFrom_67 : decode cX1_measureFrom 67 = .ok (.iconst 1, 1) := by decide +kernel
theorem dX1_measureFrom_68 : decode cX1_measureFrom 68 = .ok (.bastore, 1) := by decide +kernel
theorem dX1_measureFrom_69 : decode cX1_measureFrom 69 = .ok (.iconst 0, 1) := by decide +kernel
theorem dX1_measureFrom_70 : decode cX1_measureFrom 70 = .ok (.istore 5, 2) := by decide +kernel
theorem dX1_measureFrom_72 : decode cX1_measureFrom 72 = .ok (.iload 5, 2) := by decide +kernel
theorem dX1_measureFrom_74 : decode cX1_measureFrom 74 = .ok (.aload_n 2, 1) := by decide +kernel
theorem dX1_measureFrom_75 : decode cX1_measureFrom 75 = .ok (.getfield 31, 3) := by decide +kernel
theorem dX1_measureFrom_78 : decode cX1_measureFrom 78 = .ok (.if_icmp .ge 66, 3) := by decide +kernel
theorem dX1_measureFrom_81 : decode cX1_measureFrom 81 = .ok (.iload 5, 2) := by decide +kernel
theorem dX1_measureFrom_83 : decode cX1_measureFrom 83 = .ok (.bipush 12, 2) := by decide +kernel
theorem dX1_measureFrom_85 : decode cX1_measureFrom 85 = .ok (.if_icmp .ge 59, 3) := by decide +kernel
theorem dX1_measureFrom_88 : decode cX1_measureFrom 88 = .ok (.aload_n 2, 1) := by decide +kernel
theorem dX1_measureFrom_89 : decode cX1_measureFrom 89 = .ok (.iload 5, 2) := by decide +kernel
theorem dX1_measureFrom_91 : decode cX1_measureFrom 91 = .ok (.iload 4, 2) := by decide +kernel
theorem dX1_measureFrom_93 : decode cX1_measureFrom 93 = .ok (.invokevirtual 37, 3) := by decide +kernel
theorem dX1_measureFrom_96 : decode cX1_measureFrom 96 = .ok (.istore 6, 2) := by decide +kernel
theorem dX1_measureFrom_98 : decode cX1_measureFrom 98 = .ok (.iload 6, 2) := by decide +kernel
theorem dX1_measureFrom_100 : decode cX1_measureFrom 100 = .ok (.invokestatic 27, 3) := by decide +kernel
theorem dX1_measureFrom_103 : decode cX1_measureFrom 103 = .ok (.ifCond .eq 35, 3) := by decide +kernel
theorem dX1_measureFrom_106 : decode cX1_measureFrom 106 = .ok (.aload_n 0, 1) := by decide +kernel
theorem dX1_measureFrom_107 : decode cX1_measureFrom 107 = .ok (.getfield 9, 3) := by decide +kernel
theorem dX1_measureFrom_110 : decode cX1_measureFrom 110 = .ok (.iload 6, 2) := by decide +kernel
theorem dX1_measureFrom_112 : decode cX1_measureFrom 112 = .ok (.aload_n 0, 1) := by decide +kernel
theorem dX1_measureFrom_113 : decode cX1_measureFrom 113 = .ok (.getfield 9, 3) := by decide +kernel
theorem dX1_measureFrom_116 : decode cX1_measureFrom 116 = .ok (.iload 6, 2) := by decide +kernel
theorem dX1_measureFrom_118 : decode cX1_measureFrom 118 = .ok (.iaload, 1) := by decide +kernel
theorem dX1_measureFrom_119 : decode cX1_measureFrom 119 = .ok (.aload_n 0, 1) := by decide +kernel
theorem dX1_measureFrom_120 : decode cX1_measureFrom 120 = .ok (.getfield 9, 3) := by decide +kernel
theorem dX1_measureFrom_123 : decode cX1_measureFrom 123 = .ok (.iload 4, 2) := by decide +kernel
theorem dX1_measureFrom_125 : decode cX1_measureFrom 125 = .ok (.iaload, 1) := by decide +kernel
theorem dX1_measureFrom_126 : decode cX1_measureFrom 126 = .ok (.aload_n 2, 1) := by decide +kernel
theorem dX1_measureFrom_127 : decode cX1_measureFrom 127 = .ok (.getfield 41, 3) := by decide +kernel
theorem dX1_measureFrom_130 : decode cX1_measureFrom 130 = .ok (.iload 5, 2) := by decide +kernel
theorem dX1_measureFrom_132 : decode cX1_measureFrom 132 = .ok (.iaload, 1) := by decide +kernel
theorem dX1_measureFrom_133 : decode cX1_measureFrom 133 = .ok (.iadd, 1) := by decide +kernel
theorem dX1_measureFrom_134 : decode cX1_measureFrom 134 = .ok (.invokestatic 44, 3) := by decide +kernel
theorem dX1_measureFrom_137 : decode cX1_measureFrom 137 = .ok (.iastore, 1) := by decide +kernel
theorem dX1_measureFrom_138 : decode cX1_measureFrom 138 = .ok (.iinc 5 1, 3) := by decide +kernel
theorem dX1_measureFrom_141 : decode cX1_measureFrom 141 = .ok (.goto (-69), 3) := by decide +kernel
theorem dX1_measureFrom_144 : decode cX1_measureFrom 144 = .ok (.iinc 3 1, 3) := by decide +kernel
theorem dX1_measureFrom_147 : decode cX1_measureFrom 147 = .ok (.goto (-107), 3) := by decide +kernel
theorem dX1_measureFrom_150 : decode cX1_measureFrom 150 = .ok (.return_, 1) := by decide +kernel
theorem dX1_nearestOpen_0 : decode cX1_nearestOpen 0 = .ok (.iconst (-1), 1) := by decide +kernel
theorem dX1_nearestOpen_1 : decode cX1_nearestOpen 1 = .ok (.istore_n 1, 1) := by decide +kernel
theorem dX1_nearestOpen_2 : decode cX1_nearestOpen 2 = .ok (.ldc 22, 2) := by decide +kernel
theorem dX1_nearestOpen_4 : decode cX1_nearestOpen 4 = .ok (.istore_n 2, 1) := by decide +kernel
theorem dX1_nearestOpen_5 : decode cX1_nearestOpen 5 = .ok (.iconst 0, 1) := by decide +kernel
theorem dX1_nearestOpen_6 : decode cX1_nearestOpen 6 = .ok (.istore_n 3, 1) := by decide +kernel
theorem dX1_nearestOpen_7 : decode cX1_nearestOpen 7 = .ok (.iload_n 3, 1) := by decide +kernel
theorem dX1_nearestOpen_8 : decode cX1_nearestOpen 8 = .ok (.bipush 8, 2) := by decide +kernel
theorem dX1_nearestOpen_10 : decode cX1_nearestOpen 10 = .ok (.if_icmp .ge 37, 3) := by decide +kernel
theorem dX1_nearestOpen_13 : decode cX1_nearestOpen 13 = .ok (.aload_n 0, 1) := by decide +kernel
theorem dX1_nearestOpen_14 : decode cX1_nearestOpen 14 = .ok (.getfield 15, 3) := by decide +kernel
theorem dX1_nearestOpen_17 : decode cX1_nearestOpen 17 = .ok (.iload_n 3, 1) := by decide +kernel
theorem dX1_nearestOpen_18 : decode cX1_nearestOpen 18 = .ok (.baload, 1) := by decide +kernel
theorem dX1_nearestOpen_19 : decode cX1_nearestOpen 19 = .ok (.ifCond .ne 22, 3) := by decide +kernel
theorem dX1_nearestOpen_22 : decode cX1_nearestOpen 22 = .ok (.aload_n 0, 1) := by decide +kernel
theorem dX1_nearestOpen_23 : decode cX1_nearestOpen 23 = .ok (.getfield 9, 3) := by decide +kernel
theorem dX1_nearestOpen_26 : decode cX1_nearestOpen 26 = .ok (.iload_n 3, 1) := by decide +kernel
theorem dX1_nearestOpen_27 : decode cX1_nearestOpen 27 = .ok (.iaload, 1) := by decide +kernel
theorem dX1_nearestOpen_28 : decode cX1_nearestOpen 28 = .ok (.iload_n 2, 1) := by decide +kernel
theorem dX1_nearestOpen_29 : decode cX1_nearestOpen 29 = .ok (.if_icmp .ge 12, 3) := by decide +kernel
theorem dX1_nearestOpen_32 : decode cX1_nearestOpen 32 = .ok (.iload_n 3, 1) := by decide +kernel
theorem dX1_nearestOpen_33 : decode cX1_nearestOpen 33 = .ok (.istore_n 1, 1) := by decide +kernel
theorem dX1_nearestOpen_34 : decode cX1_nearestOpen 34 = .ok (.aload_n 0, 1) := by decide +kernel
theorem dX1_nearestOpen_35 : decode cX1_nearestOpen 35 = .ok (.getfield 9, 3) := by decide +kernel
theorem dX1_nearestOpen_38 : decode cX1_nearestOpen 38 = .ok (.iload_n 3, 1) := by decide +kernel
theorem dX1_nearestOpen_39 : decode cX1_nearestOpen 39 = .ok (.iaload, 1) := by decide +kernel
theorem dX1_nearestOpen_40 : decode cX1_nearestOpen 40 = .ok (.istore_n 2, 1) := by decide +kernel
theorem dX1_nearestOpen_41 : decode cX1_nearestOpen 41 = .ok (.iinc 3 1, 3) := by decide +kernel
theorem dX1_nearestOpen_44 : decode cX1_nearestOpen 44 = .ok (.goto (-37), 3) := by decide +kernel
theorem dX1_nearestOpen_47 : decode cX1_nearestOpen 47 = .ok (.iload_n 1, 1) := by decide +kernel
theorem dX1_nearestOpen_48 : decode cX1_nearestOpen 48 = .ok (.ireturn, 1) := by decide +kernel
theorem dX1_reachOf_0 : decode cX1_reachOf 0 = .ok (.iload_n 1, 1) := by decide +kernel
theorem dX1_reachOf_1 : decode cX1_reachOf 1 = .ok (.invokestatic 27, 3) := by decide +kernel
theorem dX1_reachOf_4 : decode cX1_reachOf 4 = .ok (.ifCond .eq 12, 3) := by decide +kernel
theorem dX1_reachOf_7 : decode cX1_reachOf 7 = .ok (.aload_n 0, 1) := by decide +kernel
theorem dX1_reachOf_8 : decode cX1_reachOf 8 = .ok (.getfield 9, 3) := by decide +kernel
theorem dX1_reachOf_11 : decode cX1_reachOf 11 = .ok (.iload_n 1, 1) := by decide +kernel
theorem dX1_reachOf_12 : decode cX1_reachOf 12 = .ok (.iaload, 1) := by decide +kernel
theorem dX1_reachOf_13 : decode cX1_reachOf 13 = .ok (.goto 5, 3) := by decide +kernel
theorem dX1_reachOf_16 : decode cX1_reachOf 16 = .ok (.ldc 22, 2) := by decide +kernel
theorem dX1_reachOf_18 : decode cX1_reachOf 18 = .ok (.ireturn, 1) := by decide +kernel
theorem dX1_improveAll_0 : decode cX1_improveAll 0 = .ok (.iconst 0, 1) := by decide +kernel
theorem dX1_improveAll_1 : decode cX1_improveAll 1 = .ok (.istore_n 2, 1) := by decide +kernel
theorem dX1_improveAll_2 : decode cX1_improveAll 2 = .ok (.iload_n 2, 1) := by decide +kernel
theorem dX1_improveAll_3 : decode cX1_improveAll 3 = .ok (.bipush 8, 2) := by decide +kernel
theorem dX1_improveAll_5 : decode cX1_improveAll 5 = .ok (.if_icmp .ge 45, 3) := by decide +kernel
theorem dX1_improveAll_8 : decode cX1_improveAll 8 = .ok (.iconst 0, 1) := by decide +kernel
theorem dX1_improveAll_9 : decode cX1_improveAll 9 = .ok (.istore_n 3, 1) := by decide +kernel
theorem dX1_improveAll_10 : decode cX1_improveAll 10 = .ok (.iload_n 3, 1) := by decide +kernel
theorem dX1_improveAll_11 : decode cX1_improveAll 11 = .ok (.bipush 8, 2) := by decide +kernel
theorem dX1_improveAll_13 : decode cX1_improveAll 13 = .ok (.if_icmp .ge 31, 3) := by decide +kernel
theorem dX1_improveAll_16 : decode cX1_improveAll 16 = .ok (.aload_n 0, 1) := by decide +kernel
theorem dX1_improveAll_17 : decode cX1_improveAll 17 = .ok (.getfield 19, 3) := by decide +kernel
theorem dX1_improveAll_20 : decode cX1_improveAll 20 = .ok (.iload_n 2, 1) := by decide +kernel
theorem dX1_improveAll_21 : decode cX1_improveAll 21 = .ok (.bipush 8, 2) := by decide +kernel
theorem dX1_improveAll_23 : decode cX1_improveAll 23 = .ok (.imul, 1) := by decide +kernel
theorem dX1_improveAll_24 : decode cX1_improveAll 24 = .ok (.iload_n 3, 1) := by decide +kernel
theorem dX1_improveAll_25 : decode cX1_improveAll 25 = .ok (.iadd, 1) := by decide +kernel
theorem dX1_improveAll_26 : decode cX1_improveAll 26 = .ok (.iload_n 2, 1) := by decide +kernel
theorem dX1_improveAll_27 : decode cX1_improveAll 27 = .ok (.iload_n 3, 1) := by decide +kernel
theorem dX1_improveAll_28 : decode cX1_improveAll 28 = .ok (.if_icmp .ne 7, 3) := by decide +kernel
theorem dX1_improveAll_31 : decode cX1_improveAll 31 = .ok (.iconst 0, 1) := by decide +kernel
theorem dX1_improveAll_32 : decode cX1_improveAll 32 = .ok (.goto 5, 3) := by decide +kernel
theorem dX1_improveAll_35 : decode cX1_improveAll 35 = .ok (.ldc 22, 2) := by decide +kernel
theorem dX1_improveAll_37 : decode cX1_improveAll 37 = .ok (.iastore, 1) := by decide +kernel
theorem dX1_improveAll_38 : decode cX1_improveAll 38 = .ok (.iinc 3 1, 3) := by decide +kernel
theorem dX1_improveAll_41 : decode cX1_improveAll 41 = .ok (.goto (-31), 3) := by decide +kernel
theorem dX1_improveAll_44 : decode cX1_improveAll 44 = .ok (.iinc 2 1, 3) := by decide +kernel
theorem dX1_improveAll_47 : decode cX1_improveAll 47 = .ok (.goto (-45), 3) := by decide +kernel
theorem dX1_improveAll_50 : decode cX1_improveAll 50 = .ok (.iconst 0, 1) := by decide +kernel
theorem dX1_improveAll_51 : decode cX1_improveAll 51 = .ok (.istore_n 2, 1) := by decide +kernel
theorem dX1_improveAll_52 : decode cX1_improveAll 52 = .ok (.iload_n 2, 1) := by decide +kernel
theorem dX1_improveAll_53 : decode cX1_improveAll 53 = .ok (.aload_n 1, 1) := by decide +kernel
theorem dX1_improveAll_54 : decode cX1_improveAll 54 = .ok (.getfield 31, 3) := by decide +kernel
theorem dX1_improveAll_57 : decode cX1_improveAll 57 = .ok (.if_icmp .ge 37, 3) := by decide +kernel
theorem dX1_improveAll_60 : decode cX1_improveAll 60 = .ok (.iload_n 2, 1) := by decide +kernel
theorem dX1_improveAll_61 : decode cX1_improveAll 61 = .ok (.bipush 12, 2) := by decide +kernel
theorem dX1_improveAll_63 : decode cX1_improveAll 63 = .ok (.if_icmp .ge 31, 3) := by decide +kernel
theorem dX1_improveAll_66 : decode cX1_improveAll 66 = .ok (.aload_n 0, 1) := by decide +kernel
theorem dX1_improveAll_67 : decode cX1_improveAll 67 = .ok (.aload_n 1, 1) := by decide +kernel
theorem dX1_improveAll_68 : decode cX1_improveAll 68 = .ok (.getfield 49, 3) := by decide +kernel
theorem dX1_improveAll_71 : decode cX1_improveAll 71 = .ok (.iload_n 2, 1) := by decide +kernel
theorem dX1_improveAll_72 : decode cX1_improveAll 72 = .ok (.iaload, 1) := by decide +kernel
theorem dX1_improveAll_73 : decode cX1_improveAll 73 = .ok (.aload_n 1, 1) := by decide +kernel
theorem dX1_improveAll_74 : decode cX1_improveAll 74 = .ok (.getfield 52, 3) := by decide +kernel
theorem dX1_improveAll_77 : decode cX1_improveAll 77 = .ok (.iload_n 2, 1) := by decide +kernel
theorem dX1_improveAll_78 : decode cX1_improveAll 78 = .ok (.iaload, 1) := by decide +kernel
theorem dX1_improveAll_79 : decode cX1_improveAll 79 = .ok (.aload_n 1, 1) := by decide +kernel
theorem dX1_improveAll_80 : decode cX1_improveAll 80 = .ok (.getfield 41, 3) := by decide +kernel
theorem dX1_improveAll_83 : decode cX1_improveAll 83 = .ok (.iload_n 2, 1) := by decide +kernel
theorem dX1_improveAll_84 : decode cX1_improveAll 84 = .ok (.iaload, 1) := by decide +kernel
theorem dX1_improveAll_85 : decode cX1_improveAll 85 = .ok (.invokevirtual 55, 3) := by decide +kernel
theorem dX1_improveAll_88 : decode cX1_improveAll 88 = .ok (.iinc 2 1, 3) := by decide +kernel
theorem dX1_improveAll_91 : decode cX1_improveAll 91 = .ok (.goto (-39), 3) := by decide +kernel
theorem dX1_improveAll_94 : decode cX1_improveAll 94 = .ok (.iconst 0, 1) := by decide +kernel
theorem dX1_improveAll_95 : decode cX1_improveAll 95 = .ok (.istore_n 2, 1) := by decide +kernel
theorem dX1_improveAll_96 : decode cX1_improveAll 96 = .ok (.iload_n 2, 1) := by decide +kernel
theorem dX1_improveAll_97 : decode cX1_improveAll 97 = .ok (.bipush 8, 2) := by decide +kernel
theorem dX1_improveAll_99 : decode cX1_improveAll 99 = .ok (.if_icmp .ge 14, 3) := by decide +kernel
theorem dX1_improveAll_102 : decode cX1_improveAll 102 = .ok (.aload_n 0, 1) := by decide +kernel
theorem dX1_improveAll_103 : decode cX1_improveAll 103 = .ok (.iload_n 2, 1) := by decide +kernel
theorem dX1_improveAll_104 : decode cX1_improveAll 104 = .ok (.invokevirtual 59, 3) := by decide +kernel
theorem dX1_improveAll_107 : decode cX1_improveAll 107 = .ok (.iinc 2 1, 3) := by decide +kernel
theorem dX1_improveAll_110 : decode cX1_improveAll 110 = .ok (.goto (-14), 3) := by decide +kernel
theorem dX1_improveAll_113 : decode cX1_improveAll 113 = .ok (.return_, 1) := by decide +kernel
theorem dX1_link_0 : decode cX1_link 0 = .ok (.iload_n 1, 1) := by decide +kernel
theorem dX1_link_1 : decode cX1_link 1 = .ok (.invokestatic 27, 3) := by decide +kernel
theorem dX1_link_4 : decode cX1_link 4 = .ok (.ifCond .eq 34, 3) := by decide +kernel
theorem dX1_link_7 : decode cX1_link 7 = .ok (.iload_n 2, 1) := by decide +kernel
theorem dX1_link_8 : decode cX1_link 8 = .ok (.invokestatic 27, 3) := by decide +kernel
theorem dX1_link_11 : decode cX1_link 11 = .ok (.ifCond .eq 27, 3) := by decide +kernel
theorem dX1_link_14 : decode cX1_link 14 = .ok (.aload_n 0, 1) := by decide +kernel
theorem dX1_link_15 : decode cX1_link 15 = .ok (.getfield 19, 3) := by decide +kernel
theorem dX1_link_18 : decode cX1_link 18 = .ok (.iload_n 1, 1) := by decide +kernel
theorem dX1_link_19 : decode cX1_link 19 = .ok (.bipush 8, 2) := by decide +kernel
theorem dX1_link_21 : decode cX1_link 21 = .ok (.imul, 1) := by decide +kernel
theorem dX1_link_22 : decode cX1_link 22 = .ok (.iload_n 2, 1) := by decide +kernel
theorem dX1_link_23 : decode cX1_link 23 = .ok (.iadd, 1) := by decide +kernel
theorem dX1_link_24 : decode cX1_link 24 = .ok (.iload_n 3, 1) := by decide +kernel
theorem dX1_link_25 : decode cX1_link 25 = .ok (.iastore, 1) := by decide +kernel
theorem dX1_link_26 : decode cX1_link 26 = .ok (.aload_n 0, 1) := by decide +kernel
theorem dX1_link_27 : decode cX1_link 27 = .ok (.getfield 19, 3) := by decide +kernel
theorem dX1_link_30 : decode cX1_link 30 = .ok (.iload_n 2, 1) := by decide +kernel
theorem dX1_link_31 : decode cX1_link 31 = .ok (.bipush 8, 2) := by decide +kernel
theorem dX1_link_33 : decode cX1_link 33 = .ok (.imul, 1) := by decide +kernel
theorem dX1_link_34 : decode cX1_link 34 = .ok (.iload_n 1, 1) := by decide +kernel
theorem dX1_link_35 : decode cX1_link 35 = .ok (.iadd, 1) := by decide +kernel
theorem dX1_link_36 : decode cX1_link 36 = .ok (.iload_n 3, 1) := by decide +kernel
theorem dX1_link_37 : decode cX1_link 37 = .ok (.iastore, 1) := by decide +kernel
theorem dX1_link_38 : decode cX1_link 38 = .ok (.return_, 1) := by decide +kernel
theorem dX1_improveBy_0 : decode cX1_improveBy 0 = .ok (.iconst 0, 1) := by decide +kernel
theorem dX1_improveBy_1 : decode cX1_improveBy 1 = .ok (.istore_n 2, 1) := by decide +kernel
theorem dX1_improveBy_2 : decode cX1_improveBy 2 = .ok (.iload_n 2, 1) := by decide +kernel
theorem dX1_improveBy_3 : decode cX1_improveBy 3 = .ok (.bipush 8, 2) := by decide +kernel
theorem dX1_improveBy_5 : decode cX1_improveBy 5 = .ok (.if_icmp .ge 62, 3) := by decide +kernel
theorem dX1_improveBy_8 : decode cX1_improveBy 8 = .ok (.iconst 0, 1) := by decide +kernel
theorem dX1_improveBy_9 : decode cX1_improveBy 9 = .ok (.istore_n 3, 1) := by decide +kernel
theorem dX1_improveBy_10 : decode cX1_improveBy 10 = .ok (.iload_n 3, 1) := by decide +kernel
theorem dX1_improveBy_11 : decode cX1_improveBy 11 = .ok (.bipush 8, 2) := by decide +kernel
theorem dX1_improveBy_13 : decode cX1_improveBy 13 = .ok (.if_icmp .ge 48, 3) := by decide +kernel
theorem dX1_improveBy_16 : decode cX1_improveBy 16 = .ok (.aload_n 0, 1) := by decide +kernel
theorem dX1_improveBy_17 : decode cX1_improveBy 17 = .ok (.iload_n 2, 1) := by decide +kernel
theorem dX1_improveBy_18 : decode cX1_improveBy 18 = .ok (.iload_n 1, 1) := by decide +kernel
theorem dX1_improveBy_19 : decode cX1_improveBy 19 = .ok (.invokevirtual 63, 3) := by decide +kernel
theorem dX1_improveBy_22 : decode cX1_improveBy 22 = .ok (.aload_n 0, 1) := by decide +kernel
theorem dX1_improveBy_23 : decode cX1_improveBy 23 = .ok (.iload_n 1, 1) := by decide +kernel
theorem dX1_improveBy_24 : decode cX1_improveBy 24 = .ok (.iload_n 3, 1) := by decide +kernel
theorem dX1_improveBy_25 : decode cX1_improveBy 25 = .ok (.invokevirtual 63, 3) := by decide +kernel
theorem dX1_improveBy_28 : decode cX1_improveBy 28 = .ok (.iadd, 1) := by decide +kernel
theorem dX1_improveBy_29 : decode cX1_improveBy 29 = .ok (.istore 4, 2) := by decide +kernel
theorem dX1_improveBy_31 : decode cX1_improveBy 31 = .ok (.iload 4, 2) := by decide +kernel
theorem dX1_improveBy_33 : decode cX1_improveBy 33 = .ok (.aload_n 0, 1) := by decide +kernel
theorem dX1_improveBy_34 : decode cX1_improveBy 34 = .ok (.iload_n 2, 1) := by decide +kernel
theorem dX1_improveBy_35 : decode cX1_improveBy 35 = .ok (.iload_n 3, 1) := by decide +kernel
theorem dX1_improveBy_36 : decode cX1_improveBy 36 = .ok (.invokevirtual 63, 3) := by decide +kernel
theorem dX1_improveBy_39 : decode cX1_improveBy 39 = .ok (.if_icmp .ge 16, 3) := by decide +kernel
theorem dX1_improveBy_42 : decode cX1_improveBy 42 = .ok (.aload_n 0, 1) := by decide +kernel
theorem dX1_improveBy_43 : decode cX1_improveBy 43 = .ok (.getfield 19, 3) := by decide +kernel
theorem dX1_improveBy_46 : decode cX1_improveBy 46 = .ok (.iload_n 2, 1) := by decide +kernel
theorem dX1_improveBy_47 : decode cX1_improveBy 47 = .ok (.bipush 8, 2) := by decide +kernel
theorem dX1_improveBy_49 : decode cX1_improveBy 49 = .ok (.imul, 1) := by decide +kernel
theorem dX1_improveBy_50 : decode cX1_improveBy 50 = .ok (.iload_n 3, 1) := by decide +kernel
theorem dX1_improveBy_51 : decode cX1_improveBy 51 = .ok (.iadd, 1) := by decide +kernel
theorem dX1_improveBy_52 : decode cX1_improveBy 52 = .ok (.iload 4, 2) := by decide +kernel
theorem dX1_improveBy_54 : decode cX1_improveBy 54 = .ok (.iastore, 1) := by decide +kernel
theorem dX1_improveBy_55 : decode cX1_improveBy 55 = .ok (.iinc 3 1, 3) := by decide +kernel
theorem dX1_improveBy_58 : decode cX1_improveBy 58 = .ok (.goto (-48), 3) := by decide +kernel
theorem dX1_improveBy_61 : decode cX1_improveBy 61 = .ok (.iinc 2 1, 3) := by decide +kernel
theorem dX1_improveBy_64 : decode cX1_improveBy 64 = .ok (.goto (-62), 3) := by decide +kernel
theorem dX1_improveBy_67 : decode cX1_improveBy 67 = .ok (.return_, 1) := by decide +kernel
theorem dX1_between_0 : decode cX1_between 0 = .ok (.iload_n 1, 1) := by decide +kernel
theorem dX1_between_1 : decode cX1_between 1 = .ok (.invokestatic 27, 3) := by decide +kernel
theorem dX1_between_4 : decode cX1_between 4 = .ok (.ifCond .eq 24, 3) := by decide +kernel
theorem dX1_between_7 : decode cX1_between 7 = .ok (.iload_n 2, 1) := by decide +kernel
theorem dX1_between_8 : decode cX1_between 8 = .ok (.invokestatic 27, 3) := by decide +kernel
theorem dX1_between_11 : decode cX1_between 11 = .ok (.ifCond .eq 17, 3) := by decide +kernel
theorem dX1_between_14 : decode cX1_between 14 = .ok (.aload_n 0, 1) := by decide +kernel
theorem dX1_between_15 : decode cX1_between 15 = .ok (.getfield 19, 3) := by decide +kernel
theorem dX1_between_18 : decode cX1_between 18 = .ok (.iload_n 1, 1) := by decide +kernel
theorem dX1_between_19 : decode cX1_between 19 = .ok (.bipush 8, 2) := by decide +kernel
theorem dX1_between_21 : decode cX1_between 21 = .ok (.imul, 1) := by decide +kernel
theorem dX1_between_22 : decode cX1_between 22 = .ok (.iload_n 2, 1) := by decide +kernel
theorem dX1_between_23 : decode cX1_between 23 = .ok (.iadd, 1) := by decide +kernel
theorem dX1_between_24 : decode cX1_between 24 = .ok (.iaload, 1) := by decide +kernel
theorem dX1_between_25 : decode cX1_between 25 = .ok (.goto 5, 3) := by decide +kernel
theorem dX1_between_28 : decode cX1_between 28 = .ok (.ldc 22, 2) := by decide +kernel
theorem dX1_between_30 : decode cX1_between 30 = .ok (.ireturn, 1) := by decide +kernel
theorem dX2_init_0 : decode cX2_init 0 = .ok (.aload_n 0, 1) := by decide +kernel
theorem dX2_init_1 : decode cX2_init 1 = .ok (.invokespecial 3, 3) := by decide +kernel
theorem dX2_init_4 : decode cX2_init 4 = .ok (.aload_n 0, 1) := by decide +kernel
theorem dX2_init_5 : decode cX2_init 5 = .ok (.iconst 4, 1) := by decide +kernel
theorem dX2_init_6 : decode cX2_init 6 = .ok (.newarray .int, 2) := by decide +kernel
theorem dX2_init_8 : decode cX2_init 8 = .ok (.putfield 9, 3) := by decide +kernel
theorem dX2_init_11 : decode cX2_init 11 = .ok (.aload_n 0, 1) := by decide +kernel
theorem dX2_init_12 : decode cX2_init 12 = .ok (.iconst 4, 1) := by decide +kernel
theorem dX2_init_13 : decode cX2_init 13 = .ok (.newarray .int, 2) := by decide +kernel
theorem dX2_init_15 : decode cX2_init 15 = .ok (.putfield 15, 3) := by decide +kernel
theorem dX2_init_18 : decode cX2_init 18 = .ok (.aload_n 0, 1) := by decide +kernel
theorem dX2_init_19 : decode cX2_init 19 = .ok (.iconst 4, 1) := by decide +kernel
theorem dX2_init_20 : decode cX2_init 20 = .ok (.newarray .int, 2) := by decide +kernel
theorem dX2_init_22 : decode cX2_init 22 = .ok (.putfield 18, 3) := by decide +kernel
theorem dX2_init_25 : decode cX2_init 25 = .ok (.aload_n 0, 1) := by decide +kernel
theorem dX2_init_26 : decode cX2_init 26 = .ok (.iconst 4, 1) := by decide +kernel
theorem dX2_init_27 : decode cX2_init 27 = .ok (.newarray .int, 2) := by decide +kernel
theorem dX2_init_29 : decode cX2_init 29 = .ok (.putfield 21, 3) := by decide +kernel
theorem dX2_init_32 : decode cX2_init 32 = .ok (.aload_n 0, 1) := by decide +kernel
theorem dX2_init_33 : decode cX2_init 33 = .ok (.bipush 20, 2) := by decide +kernel
theorem dX2_init_35 : decode cX2_init 35 = .ok (.newarray .int, 2) := by decide +kernel
theorem dX2_init_37 : decode cX2_init 37 = .ok (.putfield 24, 3) := by decide +kernel
theorem dX2_init_40 : decode cX2_init 40 = .ok (.return_, 1) := by decide +kernel
theorem dX2_has_0 : decode cX2_has 0 = .ok (.iload_n 1, 1) := by decide +kernel
theorem dX2_has_1 : decode cX2_has 1 = .ok (.ifCond .lt 20, 3) := by decide +kernel
theorem dX2_has_4 : decode cX2_has 4 = .ok (.iload_n 1, 1) := by decide +kernel
theorem dX2_has_5 : decode cX2_has 5 = .ok (.aload_n 0, 1) := by decide +kernel
theorem dX2_has_6 : decode cX2_has 6 = .ok (.getfield 27, 3) := by decide +kernel
theorem dX2_has_9 : decode cX2_has 9 = .ok (.if_icmp .ge 12, 3) := by decide +kernel
theorem dX2_has_12 : decode cX2_has 12 = .ok (.iload_n 1, 1) := by decide +kernel
theorem dX2_has_13 : decode cX2_has 13 = .ok (.iconst 4, 1) := by decide +kernel
theorem dX2_has_14 : decode cX2_has 14 = .ok (.if_icmp .ge 7, 3) := by decide +kernel
theorem dX2_has_17 : decode cX2_has 17 = .ok (.iconst 1, 1) := by decide +kernel
theorem dX2_has_18 : decode cX2_has 18 = .ok (.goto 4, 3) := by decide +kernel
theorem dX2_has_21 : decode cX2_has 21 = .ok (.iconst 0, 1) := by decide +kernel
theorem dX2_has_22 : decode cX2_has 22 = .ok (.ireturn, 1) := by decide +kernel
theorem dX2_copyFrom_0 : decode cX2_copyFrom 0 = .ok (.aload_n 1, 1) := by decide +kernel
theorem dX2_copyFrom_1 : decode cX2_copyFrom 1 = .ok (.getfield 9, 3) := by decide +kernel
theorem dX2_copyFrom_4 : decode cX2_copyFrom 4 = .ok (.iconst 0, 1) := by decide +kernel
theorem dX2_copyFrom_5 : decode cX2_copyFrom 5 = .ok (.aload_n 0, 1) := by decide +kernel
theorem dX2_copyFrom_6 : decode cX2_copyFrom 6 = .ok (.getfield 9, 3) := by decide +kernel
theorem dX2_copyFrom_9 : decode cX2_copyFrom 9 = .ok (.iconst 0, 1) := by decide +kernel
theorem dX2_copyFrom_10 : decode cX2_copyFrom 10 = .ok (.iconst 4, 1) := by decide +kernel
theorem dX2_copyFrom_11 : decode cX2_copyFrom 11 = .ok (.invokestatic 31, 3) := by decide +kernel
theorem dX2_copyFrom_14 : decode cX2_copyFrom 14 = .ok (.aload_n 1, 1) := by decide +kernel
theorem dX2_copyFrom_15 : decode cX2_copyFrom 15 = .ok (.getfield 15, 3) := by decide +kernel
theorem dX2_copyFrom_18 : decode cX2_copyFrom 18 = .ok (.iconst 0, 1) := by decide +kernel
theorem dX2_copyFrom_19 : decode cX2_copyFrom 19 = .ok (.aload_n 0, 1) := by decide +kernel
theorem dX2_copyFrom_20 : decode cX2_copyFrom 20 = .ok (.getfield 15, 3) := by decide +kernel
theorem dX2_copyFrom_23 : decode cX2_copyFrom 23 = .ok (.iconst 0, 1) := by decide +kernel
theorem dX2_copyFrom_24 : decode cX2_copyFrom 24 = .ok (.iconst 4, 1) := by decide +kernel
theorem dX2_copyFrom_25 : decode cX2_copyFrom 25 = .ok (.invokestatic 31, 3) := by decide +kernel
theorem dX2_copyFrom_28 : decode cX2_copyFrom 28 = .ok (.aload_n 1, 1) := by decide +kernel
theorem dX2_copyFrom_29 : decode cX2_copyFrom 29 = .ok (.getfield 18, 3) := by decide +kernel
theorem dX2_copyFrom_32 : decode cX2_copyFrom 32 = .ok (.iconst 0, 1) := by decide +kernel
theorem dX2_copyFrom_33 : decode cX2_copyFrom 33 = .ok (.aload_n 0, 1) := by decide +kernel
theorem dX2_copyFrom_34 : decode cX2_copyFrom 34 = .ok (.getfield 18, 3) := by decide +kernel
theorem dX2_copyFrom_37 : decode cX2_copyFrom 37 = .ok (.iconst 0, 1) := by decide +kernel
theorem dX2_copyFrom_38 : decode cX2_copyFrom 38 = .ok (.iconst 4, 1) := by decide +kernel
theorem dX2_copyFrom_39 : decode cX2_copyFrom 39 = .ok (.invokestatic 31, 3) := by decide +kernel
theorem dX2_copyFrom_42 : decode cX2_copyFrom 42 = .ok (.aload_n 1, 1) := by decide +kernel
theorem dX2_copyFrom_43 : decode cX2_copyFrom 43 = .ok (.getfield 21, 3) := by decide +kernel
theorem dX2_copyFrom_46 : decode cX2_copyFrom 46 = .ok (.iconst 0, 1) := by decide +kernel
theorem dX2_copyFrom_47 : decode cX2_copyFrom 47 = .ok (.aload_n 0, 1) := by decide +kernel
theorem dX2_copyFrom_48 : decode cX2_copyFrom 48 = .ok (.getfield 21, 3) := by decide +kernel
theorem dX2_copyFrom_51 : decode cX2_copyFrom 51 = .ok (.iconst 0, 1) := by decide +kernel
theorem dX2_copyFrom_52 : decode cX2_copyFrom 52 = .ok (.iconst 4, 1) := by decide +kernel
theorem dX2_copyFrom_53 : decode cX2_copyFrom 53 = .ok (.invokestatic 31, 3) := by decide +kernel
theorem dX2_copyFrom_56 : decode cX2_copyFrom 56 = .ok (.aload_n 1, 1) := by decide +kernel
theorem dX2_copyFrom_57 : decode cX2_copyFrom 57 = .ok (.getfield 24, 3) := by decide +kernel
theorem dX2_copyFrom_60 : decode cX2_copyFrom 60 = .ok (.iconst 0, 1) := by decide +kernel
theorem dX2_copyFrom_61 : decode cX2_copyFrom 61 = .ok (.aload_n 0, 1) := by decide +kernel
theorem dX2_copyFrom_62 : decode cX2_copyFrom 62 = .ok (.getfield 24, 3) := by decide +kernel
theorem dX2_copyFrom_65 : decode cX2_copyFrom 65 = .ok (.iconst 0, 1) := by decide +kernel
theorem dX2_copyFrom_66 : decode cX2_copyFrom 66 = .ok (.bipush 20, 2) := by decide +kernel
theorem dX2_copyFrom_68 : decode cX2_copyFrom 68 = .ok (.invokestatic 31, 3) := by decide +kernel
theorem dX2_copyFrom_71 : decode cX2_copyFrom 71 = .ok (.aload_n 0, 1) := by decide +kernel
theorem dX2_copyFrom_72 : decode cX2_copyFrom 72 = .ok (.aload_n 1, 1) := by decide +kernel
theorem dX2_copyFrom_73 : decode cX2_copyFrom 73 = .ok (.getfield 27, 3) := by decide +kernel
theorem dX2_copyFrom_76 : decode cX2_copyFrom 76 = .ok (.putfield 27, 3) := by decide +kernel
theorem dX2_copyFrom_79 : decode cX2_copyFrom 79 = .ok (.return_, 1) := by decide +kernel
theorem dX2_put_0 : decode cX2_put 0 = .ok (.aload_n 0, 1) := by decide +kernel
theorem dX2_put_1 : decode cX2_put 1 = .ok (.getfield 27, 3) := by decide +kernel
theorem dX2_put_4 : decode cX2_put 4 = .ok (.ifCond .lt 11, 3) := by decide +kernel
theorem dX2_put_7 : decode cX2_put 7 = .ok (.aload_n 0, 1) := by decide +kernel
theorem dX2_put_8 : decode cX2_put 8 = .ok (.getfield 27, 3) := by decide +kernel
theorem dX2_put_11 : decode cX2_put 11 = .ok (.iconst 4, 1) := by decide +kernel
theorem dX2_put_12 : decode cX2_put 12 = .ok (.if_icmp .lt 6, 3) := by decide +kernel
theorem dX2_put_15 : decode cX2_put 15 = .ok (.bipush (-4), 2) := by decide +kernel
theorem dX2_put_17 : decode cX2_put 17 = .ok (.ireturn, 1) := by decide +kernel
theorem dX2_put_18 : decode cX2_put 18 = .ok (.aload_n 0, 1) := by decide +kernel
theorem dX2_put_19 : decode cX2_put 19 = .ok (.getfield 27, 3) := by decide +kernel
theorem dX2_put_22 : decode cX2_put 22 = .ok (.istore_n 2, 1) := by decide +kernel
theorem dX2_put_23 : decode cX2_put 23 = .ok (.aload_n 0, 1) := by decide +kernel
theorem dX2_put_24 : decode cX2_put 24 = .ok (.getfield 9, 3) := by decide +kernel
theorem dX2_put_27 : decode cX2_put 27 = .ok (.iload_n 2, 1) := by decide +kernel
theorem dX2_put_28 : decode cX2_put 28 = .ok (.iload_n 1, 1) := by decide +kernel
theorem dX2_put_29 : decode cX2_put 29 = .ok (.iastore, 1) := by decide +kernel
theorem dX2_put_30 : decode cX2_put 30 = .ok (.aload_n 0, 1) := by decide +kernel
theorem dX2_put_31 : decode cX2_put 31 = .ok (.getfield 15, 3) := by decide +kernel
theorem dX2_put_34 : decode cX2_put 34 = .ok (.iload_n 2, 1) := by decide +kernel
theorem dX2_put_35 : decode cX2_put 35 = .ok (.iconst (-1), 1) := by decide +kernel
theorem dX2_put_36 : decode cX2_put 36 = .ok (.iastore, 1) := by decide +kernel
theorem dX2_put_37 : decode cX2_put 37 = .ok (.aload_n 0, 1) := by decide +kernel
theorem dX2_put_38 : decode cX2_put 38 = .ok (.getfield 18, 3) := by decide +kernel
theorem dX2_put_41 : decode cX2_put 41 = .ok (.iload_n 2, 1) := by decide +kernel
theorem dX2_put_42 : decode cX2_put 42 = .ok (.iconst 0, 1) := by decide +kernel
theorem dX2_put_43 : decode cX2_put 43 = .ok (.iastore, 1) := by decide +kernel
theorem dX2_put_44 : decode cX2_put 44 = .ok (.aload_n 0, 1) := by decide +kernel
theorem dX2_put_45 : decode cX2_put 45 = .ok (.getfield 21, 3) := by decide +kernel
theorem dX2_put_48 : decode cX2_put 48 = .ok (.iload_n 2, 1) := by decide +kernel
theorem dX2_put_49 : decode cX2_put 49 = .ok (.iconst 0, 1) := by decide +kernel
theorem dX2_put_50 : decode cX2_put 50 = .ok (.iastore, 1) := by decide +kernel
theorem dX2_put_51 : decode cX2_put 51 = .ok (.aload_n 0, 1) := by decide +kernel
theorem dX2_put_52 : decode cX2_put 52 = .ok (.dup, 1) := by decide +kernel
theorem dX2_put_53 : decode cX2_put 53 = .ok (.getfield 27, 3) := by decide +kernel
theorem dX2_put_56 : decode cX2_put 56 = .ok (.iconst 1, 1) := by decide +kernel
theorem dX2_put_57 : decode cX2_put 57 = .ok (.iadd, 1) := by decide +kernel
theorem dX2_put_58 : decode cX2_put 58 = .ok (.putfield 27, 3) := by decide +kernel
theorem dX2_put_61 : decode cX2_put 61 = .ok (.iload_n 2, 1) := by decide +kernel
theorem dX2_put_62 : decode cX2_put 62 = .ok (.ireturn, 1) := by decide +kernel
theorem dX2_waitingAt_0 : decode cX2_waitingAt 0 = .ok (.aload_n 0, 1) := by decide +kernel
theorem dX2_waitingAt_1 : decode cX2_waitingAt 1 = .ok (.iload_n 1, 1) := by decide +kernel
theorem dX2_waitingAt_2 : decode cX2_waitingAt 2 = .ok (.invokevirtual 37, 3) := by decide +kernel
theorem dX2_waitingAt_5 : decode cX2_waitingAt 5 = .ok (.ifCond .eq 22, 3) := by decide +kernel
theorem dX2_waitingAt_8 : decode cX2_waitingAt 8 = .ok (.iload_n 2, 1) := by decide +kernel
theorem dX2_waitingAt_9 : decode cX2_waitingAt 9 = .ok (.ifCond .lt 18, 3) := by decide +kernel
theorem dX2_waitingAt_12 : decode cX2_waitingAt 12 = .ok (.iload_n 2, 1) := by decide +kernel
theorem dX2_waitingAt_13 : decode cX2_waitingAt 13 = .ok (.aload_n 0, 1) := by decide +kernel
theorem dX2_waitingAt_14 : decode cX2_waitingAt 14 = .ok (.getfield 21, 3) := by decide +kernel
theorem dX2_waitingAt_17 : decode cX2_waitingAt 17 = .ok (.iload_n 1, 1) := by decide +kernel
theorem dX2_waitingAt_18 : decode cX2_waitingAt 18 = .ok (.iaload, 1) := by decide +kernel
theorem dX2_waitingAt_19 : decode cX2_waitingAt 19 = .ok (.if_icmp .ge 8, 3) := by decide +kernel
theorem dX2_waitingAt_22 : decode cX2_waitingAt 22 = .ok (.iload_n 2, 1) := by decide +kernel
theorem dX2_waitingAt_23 : decode cX2_waitingAt 23 = .ok (.iconst 5, 1) := by decide +kernel
theorem dX2_waitingAt_24 : decode cX2_waitingAt 24 = .ok (.if_icmp .lt 5, 3) := by decide +kernel
theorem dX2_waitingAt_27 : decode cX2_waitingAt 27 = .ok (.iconst (-1), 1) := by decide +kernel
theorem dX2_waitingAt_28 : decode cX2_waitingAt 28 = .ok (.ireturn, 1) := by decide +kernel
theorem dX2_waitingAt_29 : decode cX2_waitingAt 29 = .ok (.aload_n 0, 1) := by decide +kernel
theorem dX2_waitingAt_30 : decode cX2_waitingAt 30 = .ok (.getfield 24, 3) := by decide +kernel
theorem dX2_waitingAt_33 : decode cX2_waitingAt 33 = .ok (.iload_n 1, 1) := by decide +kernel
theorem dX2_waitingAt_34 : decode cX2_waitingAt 34 = .ok (.iconst 5, 1) := by decide +kernel
theorem dX2_waitingAt_35 : decode cX2_waitingAt 35 = .ok (.imul, 1) := by decide +kernel
theorem dX2_waitingAt_36 : decode cX2_waitingAt 36 = .ok (.iload_n 2, 1) := by decide +kernel
theorem dX2_waitingAt_37 : decode cX2_waitingAt 37 = .ok (.iadd, 1) := by decide +kernel
theorem dX2_waitingAt_38 : decode cX2_waitingAt 38 = .ok (.iaload, 1) := by decide +kernel
theorem dX2_waitingAt_39 : decode cX2_waitingAt 39 = .ok (.ireturn, 1) := by decide +kernel
theorem dX2_append_0 : decode cX2_append 0 = .ok (.aload_n 0, 1) := by decide +kernel
theorem dX2_append_1 : decode cX2_append 1 = .ok (.iload_n 1, 1) := by decide +kernel
theorem dX2_append_2 : decode cX2_append 2 = .ok (.invokevirtual 37, 3) := by decide +kernel
theorem dX2_append_5 : decode cX2_append 5 = .ok (.ifCond .ne 5, 3) := by decide +kernel
theorem dX2_append_8 : decode cX2_append 8 = .ok (.iconst (-1), 1) := by decide +kernel
theorem dX2_append_9 : decode cX2_append 9 = .ok (.ireturn, 1) := by decide +kernel
theorem dX2_append_10 : decode cX2_append 10 = .ok (.aload_n 0, 1) := by decide +kernel
theorem dX2_append_11 : decode cX2_append 11 = .ok (.getfield 21, 3) := by decide +kernel
theorem dX2_append_14 : decode cX2_append 14 = .ok (.iload_n 1, 1) := by decide +kernel
theorem dX2_append_15 : decode cX2_append 15 = .ok (.iaload, 1) := by decide +kernel
theorem dX2_append_16 : decode cX2_append 16 = .ok (.istore_n 3, 1) := by decide +kernel
theorem dX2_append_17 : decode cX2_append 17 = .ok (.iload_n 3, 1) := by decide +kernel
theorem dX2_append_18 : decode cX2_append 18 = .ok (.ifCond .lt 8, 3) := by decide +kernel
theorem dX2_append_21 : decode cX2_append 21 = .ok (.iload_n 3, 1) := by decide +kernel
theorem dX2_append_22 : decode cX2_append 22 = .ok (.iconst 5, 1) := by decide +kernel
theorem dX2_append_23 : decode cX2_append 23 = .ok (.if_icmp .lt 6, 3) := by decide +kernel
theorem dX2_append_26 : decode cX2_append 26 = .ok (.bipush (-4), 2) := by decide +kernel
theorem dX2_append_28 : decode cX2_append 28 = .ok (.ireturn, 1) := by decide +kernel
theorem dX2_append_29 : decode cX2_append 29 = .ok (.aload_n 0, 1) := by decide +kernel
theorem dX2_append_30 : decode cX2_append 30 = .ok (.getfield 24, 3) := by decide +kernel
theorem dX2_append_33 : decode cX2_append 33 = .ok (.iload_n 1, 1) := by decide +kernel
theorem dX2_append_34 : decode cX2_append 34 = .ok (.iconst 5, 1) := by decide +kernel
theorem dX2_append_35 : decode cX2_append 35 = .ok (.imul, 1) := by decide +kernel
theorem dX2_append_36 : decode cX2_append 36 = .ok (.iload_n 3, 1) := by decide +kernel
theorem dX2_append_37 : decode cX2_append 37 = .ok (.iadd, 1) := by decide +kernel
theorem dX2_append_38 : decode cX2_append 38 = .ok (.iload_n 2, 1) := by decide +kernel
theorem dX2_append_39 : decode cX2_append 39 = .ok (.iastore, 1) := by decide +kernel
theorem dX2_append_40 : decode cX2_append 40 = .ok (.aload_n 0, 1) := by decide +kernel
theorem dX2_append_41 : decode cX2_append 41 = .ok (.getfield 21, 3) := by decide +kernel
theorem dX2_append_44 : decode cX2_append 44 = .ok (.iload_n 1, 1) := by decide +kernel
theorem dX2_append_45 : decode cX2_append 45 = .ok (.dup2, 1) := by decide +kernel
theorem dX2_append_46 : decode cX2_append 46 = .ok (.iaload, 1) := by decide +kernel
theorem dX2_append_47 : decode cX2_append 47 = .ok (.iconst 1, 1) := by decide +kernel
theorem dX2_append_48 : decode cX2_append 48 = .ok (.iadd, 1) := by decide +kernel
theorem dX2_append_49 : decode cX2_append 49 = .ok (.iastore, 1) := by decide +kernel
theorem dX2_append_50 : decode cX2_append 50 = .ok (.aload_n 0, 1) := by decide +kernel
theorem dX2_append_51 : decode cX2_append 51 = .ok (.getfield 21, 3) := by decide +kernel
theorem dX2_append_54 : decode cX2_append 54 = .ok (.iload_n 1, 1) := by decide +kernel
theorem dX2_append_55 : decode cX2_append 55 = .ok (.iaload, 1) := by decide +kernel
theorem dX2_append_56 : decode cX2_append 56 = .ok (.ireturn, 1) := by decide +kernel
theorem dX2_removeLast_0 : decode cX2_removeLast 0 = .ok (.aload_n 0, 1) := by decide +kernel
theorem dX2_removeLast_1 : decode cX2_removeLast 1 = .ok (.iload_n 1, 1) := by decide +kernel
theorem dX2_removeLast_2 : decode cX2_removeLast 2 = .ok (.invokevirtual 37, 3) := by decide +kernel
theorem dX2_removeLast_5 : decode cX2_removeLast 5 = .ok (.ifCond .ne 5, 3) := by decide +kernel
theorem dX2_removeLast_8 : decode cX2_removeLast 8 = .ok (.iconst (-1), 1) := by decide +kernel
theorem dX2_removeLast_9 : decode cX2_removeLast 9 = .ok (.ireturn, 1) := by decide +kernel
theorem dX2_removeLast_10 : decode cX2_removeLast 10 = .ok (.aload_n 0, 1) := by decide +kernel
theorem dX2_removeLast_11 : decode cX2_removeLast 11 = .ok (.iload_n 1, 1) := by decide +kernel
theorem dX2_removeLast_12 : decode cX2_removeLast 12 = .ok (.aload_n 0, 1) := by decide +kernel
theorem dX2_removeLast_13 : decode cX2_removeLast 13 = .ok (.getfield 21, 3) := by decide +kernel
theorem dX2_removeLast_16 : decode cX2_removeLast 16 = .ok (.iload_n 1, 1) := by decide +kernel
theorem dX2_removeLast_17 : decode cX2_removeLast 17 = .ok (.iaload, 1) := by decide +kernel
theorem dX2_removeLast_18 : decode cX2_removeLast 18 = .ok (.iconst 1, 1) := by decide +kernel
theorem dX2_removeLast_19 : decode cX2_removeLast 19 = .ok (.isub, 1) := by decide +kernel
theorem dX2_removeLast_20 : decode cX2_removeLast 20 = .ok (.invokevirtual 41, 3) := by decide +kernel
theorem dX2_removeLast_23 : decode cX2_removeLast 23 = .ok (.istore_n 2, 1) := by decide +kernel
theorem dX2_removeLast_24 : decode cX2_removeLast 24 = .ok (.iload_n 2, 1) := by decide +kernel
theorem dX2_removeLast_25 : decode cX2_removeLast 25 = .ok (.ifCond .ge 6, 3) := by decide +kernel
theorem dX2_removeLast_28 : decode cX2_removeLast 28 = .ok (.bipush (-5), 2) := by decide +kernel
theorem dX2_removeLast_30 : decode cX2_removeLast 30 = .ok (.ireturn, 1) := by decide +kernel
theorem dX2_removeLast_31 : decode cX2_removeLast 31 = .ok (.aload_n 0, 1) := by decide +kernel
theorem dX2_removeLast_32 : decode cX2_removeLast 32 = .ok (.getfield 21, 3) := by decide +kernel
theorem dX2_removeLast_35 : decode cX2_removeLast 35 = .ok (.iload_n 1, 1) := by decide +kernel
theorem dX2_removeLast_36 : decode cX2_removeLast 36 = .ok (.dup2, 1) := by decide +kernel
theorem dX2_removeLast_37 : decode cX2_removeLast 37 = .ok (.iaload, 1) := by decide +kernel
theorem dX2_removeLast_38 : decode cX2_removeLast 38 = .ok (.iconst 1, 1) := by decide +kernel
theorem dX2_removeLast_39 : decode cX2_removeLast 39 = .ok (.isub, 1) := by decide +kernel
theorem dX2_removeLast_40 : decode cX2_removeLast 40 = .ok (.iastore, 1) := by decide +kernel
theorem dX2_removeLast_41 : decode cX2_removeLast 41 = .ok (.iload_n 2, 1) := by decide +kernel
theorem dX2_removeLast_42 : decode cX2_removeLast 42 = .ok (.ireturn, 1) := by decide +kernel
theorem dX2_canBegin_0 : decode cX2_canBegin 0 = .ok (.aload_n 0, 1) := by decide +kernel
theorem dX2_canBegin_1 : decode cX2_canBegin 1 = .ok (.iload_n 1, 1) := by decide +kernel
theorem dX2_canBegin_2 : decode cX2_canBegin 2 = .ok (.invokevirtual 37, 3) := by decide +kernel
theorem dX2_canBegin_5 : decode cX2_canBegin 5 = .ok (.ifCond .eq 25, 3) := by decide +kernel
theorem dX2_canBegin_8 : decode cX2_canBegin 8 = .ok (.aload_n 0, 1) := by decide +kernel
theorem dX2_canBegin_9 : decode cX2_canBegin 9 = .ok (.getfield 18, 3) := by decide +kernel
theorem dX2_canBegin_12 : decode cX2_canBegin 12 = .ok (.iload_n 1, 1) := by decide +kernel
theorem dX2_canBegin_13 : decode cX2_canBegin 13 = .ok (.iaload, 1) := by decide +kernel
theorem dX2_canBegin_14 : decode cX2_canBegin 14 = .ok (.ifCond .ne 16, 3) := by decide +kernel
theorem dX2_canBegin_17 : decode cX2_canBegin 17 = .ok (.aload_n 0, 1) := by decide +kernel
theorem dX2_canBegin_18 : decode cX2_canBegin 18 = .ok (.getfield 21, 3) := by decide +kernel
theorem dX2_canBegin_21 : decode cX2_canBegin 21 = .ok (.iload_n 1, 1) := by decide +kernel
theorem dX2_canBegin_22 : decode cX2_canBegin 22 = .ok (.iaload, 1) := by decide +kernel
theorem dX2_canBegin_23 : decode cX2_canBegin 23 = .ok (.ifCond .le 7, 3) := by decide +kernel
theorem dX2_canBegin_26 : decode cX2_canBegin 26 = .ok (.iconst 1, 1) := by decide +kernel
theorem dX2_canBegin_27 : decode cX2_canBegin 27 = .ok (.goto 4, 3) := by decide +kernel
theorem dX2_canBegin_30 : decode cX2_canBegin 30 = .ok (.iconst 0, 1) := by decide +kernel
theorem dX2_canBegin_31 : decode cX2_canBegin 31 = .ok (.ireturn, 1) := by decide +kernel
theorem dX2_removeFirst_0 : decode cX2_removeFirst 0 = .ok (.aload_n 0, 1) := by decide +kernel
theorem dX2_removeFirst_1 : decode cX2_removeFirst 1 = .ok (.iload_n 1, 1) := by decide +kernel
theorem dX2_removeFirst_2 : decode cX2_removeFirst 2 = .ok (.iconst 0, 1) := by decide +kernel
theorem dX2_removeFirst_3 : decode cX2_removeFirst 3 = .ok (.invokevirtual 41, 3) := by decide +kernel
theorem dX2_removeFirst_6 : decode cX2_removeFirst 6 = .ok (.istore_n 2, 1) := by decide +kernel
theorem dX2_removeFirst_7 : decode cX2_removeFirst 7 = .ok (.aload_n 0, 1) := by decide +kernel
theorem dX2_removeFirst_8 : decode cX2_removeFirst 8 = .ok (.iload_n 1, 1) := by decide +kernel
theorem dX2_removeFirst_9 : decode cX2_removeFirst 9 = .ok (.invokevirtual 37, 3) := by decide +kernel
theorem dX2_removeFirst_12 : decode cX2_removeFirst 12 = .ok (.ifCond .eq 7, 3) := by decide +kernel
theorem dX2_removeFirst_15 : decode cX2_removeFirst 15 = .ok (.iload_n 2, 1) := by decide +kernel
theorem dX2_removeFirst_16 : decode cX2_removeFirst 16 = .ok (.ifCond .ge 5, 3) := by decide +kernel
theorem dX2_removeFirst_19 : decode cX2_removeFirst 19 = .ok (.iconst (-1), 1) := by decide +kernel
theorem dX2_removeFirst_20 : decode cX2_removeFirst 20 = .ok (.ireturn, 1) := by decide +kernel
theorem dX2_removeFirst_21 : decode cX2_removeFirst 21 = .ok (.iload_n 1, 1) := by decide +kernel
theorem dX2_removeFirst_22 : decode cX2_removeFirst 22 = .ok (.iconst 5, 1) := by decide +kernel
theorem dX2_removeFirst_23 : decode cX2_removeFirst 23 = .ok (.imul, 1) := by decide +kernel
theorem dX2_removeFirst_24 : decode cX2_removeFirst 24 = .ok (.istore_n 3, 1) := by decide +kernel
theorem dX2_removeFirst_25 : decode cX2_removeFirst 25 = .ok (.iconst 1, 1) := by decide +kernel
theorem dX2_removeFirst_26 : decode cX2_removeFirst 26 = .ok (.istore 4, 2) := by decide +kernel
theorem dX2_removeFirst_28 : decode cX2_removeFirst 28 = .ok (.iload 4, 2) := by decide +kernel
theorem dX2_removeFirst_30 : decode cX2_removeFirst 30 = .ok (.iconst 5, 1) := by decide +kernel
theorem dX2_removeFirst_31 : decode cX2_removeFirst 31 = .ok (.if_icmp .ge 29, 3) := by decide +kernel
theorem dX2_removeFirst_34 : decode cX2_removeFirst 34 = .ok (.aload_n 0, 1) := by decide +kernel
theorem dX2_removeFirst_35 : decode cX2_removeFirst 35 = .ok (.getfield 24, 3) := by decide +kernel
theorem dX2_removeFirst_38 : decode cX2_removeFirst 38 = .ok (.iload_n 3, 1) := by decide +kernel
theorem dX2_removeFirst_39 : decode cX2_removeFirst 39 = .ok (.iload 4, 2) := by decide +kernel
theorem dX2_removeFirst_41 : decode cX2_removeFirst 41 = .ok (.iadd, 1) := by decide +kernel
theorem dX2_removeFirst_42 : decode cX2_removeFirst 42 = .ok (.iconst 1, 1) := by decide +kernel
theorem dX2_removeFirst_43 : decode cX2_removeFirst 43 = .ok (.isub, 1) := by decide +kernel
theorem dX2_removeFirst_44 : decode cX2_removeFirst 44 = .ok (.aload_n 0, 1) := by decide +kernel
theorem dX2_removeFirst_45 : decode cX2_removeFirst 45 = .ok (.getfield 24, 3) := by decide +kernel
theorem dX2_removeFirst_48 : decode cX2_removeFirst 48 = .ok (.iload_n 3, 1) := by decide +kernel
theorem dX2_removeFirst_49 : decode cX2_removeFirst 49 = .ok (.iload 4, 2) := by decide +kernel
theorem dX2_removeFirst_51 : decode cX2_removeFirst 51 = .ok (.iadd, 1) := by decide +kernel
theorem dX2_removeFirst_52 : decode cX2_removeFirst 52 = .ok (.iaload, 1) := by decide +kernel
theorem dX2_removeFirst_53 : decode cX2_removeFirst 53 = .ok (.iastore, 1) := by decide +kernel
theorem dX2_removeFirst_54 : decode cX2_removeFirst 54 = .ok (.iinc 4 1, 3) := by decide +kernel
theorem dX2_removeFirst_57 : decode cX2_removeFirst 57 = .ok (.goto (-29), 3) := by decide +kernel
theorem dX2_removeFirst_60 : decode cX2_removeFirst 60 = .ok (.aload_n 0, 1) := by decide +kernel
theorem dX2_removeFirst_61 : decode cX2_removeFirst 61 = .ok (.getfield 21, 3) := by decide +kernel
theorem dX2_removeFirst_64 : decode cX2_removeFirst 64 = .ok (.iload_n 1, 1) := by decide +kernel
theorem dX2_removeFirst_65 : decode cX2_removeFirst 65 = .ok (.dup2, 1) := by decide +kernel
theorem dX2_removeFirst_66 : decode cX2_removeFirst 66 = .ok (.iaload, 1) := by decide +kernel
theorem dX2_removeFirst_67 : decode cX2_removeFirst 67 = .ok (.iconst 1, 1) := by decide +kernel
theorem dX2_removeFirst_68 : decode cX2_removeFirst 68 = .ok (.isub, 1) := by decide +kernel
theorem dX2_removeFirst_69 : decode cX2_removeFirst 69 = .ok (.iastore, 1) := by decide +kernel
theorem dX2_removeFirst_70 : decode cX2_removeFirst 70 = .ok (.iload_n 2, 1) := by decide +kernel
theorem dX2_removeFirst_71 : decode cX2_removeFirst 71 = .ok (.ireturn, 1) := by decide +kernel
theorem dX2_begin_0 : decode cX2_begin 0 = .ok (.aload_n 0, 1) := by decide +kernel
theorem dX2_begin_1 : decode cX2_begin 1 = .ok (.iload_n 1, 1) := by decide +kernel
theorem dX2_begin_2 : decode cX2_begin 2 = .ok (.invokevirtual 37, 3) := by decide +kernel
theorem dX2_begin_5 : decode cX2_begin 5 = .ok (.ifCond .eq 25, 3) := by decide +kernel
theorem dX2_begin_8 : decode cX2_begin 8 = .ok (.aload_n 0, 1) := by decide +kernel
theorem dX2_begin_9 : decode cX2_begin 9 = .ok (.getfield 15, 3) := by decide +kernel
theorem dX2_begin_12 : decode cX2_begin 12 = .ok (.iload_n 1, 1) := by decide +kernel
theorem dX2_begin_13 : decode cX2_begin 13 = .ok (.iload_n 2, 1) := by decide +kernel
theorem dX2_begin_14 : decode cX2_begin 14 = .ok (.iastore, 1) := by decide +kernel
theorem dX2_begin_15 : decode cX2_begin 15 = .ok (.aload_n 0, 1) := by decide +kernel
theorem dX2_begin_16 : decode cX2_begin 16 = .ok (.getfield 18, 3) := by decide +kernel
theorem dX2_begin_19 : decode cX2_begin 19 = .ok (.iload_n 1, 1) := by decide +kernel
theorem dX2_begin_20 : decode cX2_begin 20 = .ok (.iload_n 3, 1) := by decide +kernel
theorem dX2_begin_21 : decode cX2_begin 21 = .ok (.iastore, 1) := by decide +kernel
theorem dX2_begin_22 : decode cX2_begin 22 = .ok (.aload_n 0, 1) := by decide +kernel
theorem dX2_begin_23 : decode cX2_begin 23 = .ok (.getfield 9, 3) := by decide +kernel
theorem dX2_begin_26 : decode cX2_begin 26 = .ok (.iload_n 1, 1) := by decide +kernel
theorem dX2_begin_27 : decode cX2_begin 27 = .ok (.iload 4, 2) := by decide +kernel
theorem dX2_begin_29 : decode cX2_begin 29 = .ok (.iastore, 1) := by decide +kernel
theorem dX2_begin_30 : decode cX2_begin 30 = .ok (.return_, 1) := by decide +kernel
theorem dX2_work_0 : decode cX2_work 0 = .ok (.aload_n 0, 1) := by decide +kernel
theorem dX2_work_1 : decode cX2_work 1 = .ok (.iload_n 1, 1) := by decide +kernel
theorem dX2_work_2 : decode cX2_work 2 = .ok (.invokevirtual 37, 3) := by decide +kernel
theorem dX2_work_5 : decode cX2_work 5 = .ok (.ifCond .eq 12, 3) := by decide +kernel
theorem dX2_work_8 : decode cX2_work 8 = .ok (.aload_n 0, 1) := by decide +kernel
theorem dX2_work_9 : decode cX2_work 9 = .ok (.getfield 18, 3) := by decide +kernel
theorem dX2_work_12 : decode cX2_work 12 = .ok (.iload_n 1, 1) := by decide +kernel
theorem dX2_work_13 : decode cX2_work 13 = .ok (.iaload, 1) := by decide +kernel
theorem dX2_work_14 : decode cX2_work 14 = .ok (.ifCond .gt 5, 3) := by decide +kernel
theorem dX2_work_17 : decode cX2_work 17 = .ok (.iconst (-1), 1) := by decide +kernel
theorem dX2_work_18 : decode cX2_work 18 = .ok (.ireturn, 1) := by decide +kernel
theorem dX2_work_19 : decode cX2_work 19 = .ok (.aload_n 0, 1) := by decide +kernel
theorem dX2_work_20 : decode cX2_work 20 = .ok (.getfield 18, 3) := by decide +kernel
theorem dX2_work_23 : decode cX2_work 23 = .ok (.iload_n 1, 1) := by decide +kernel
theorem dX2_work_24 : decode cX2_work 24 = .ok (.dup2, 1) := by decide +kernel
theorem dX2_work_25 : decode cX2_work 25 = .ok (.iaload, 1) := by decide +kernel
theorem dX2_work_26 : decode cX2_work 26 = .ok (.iconst 1, 1) := by decide +kernel
theorem dX2_work_27 : decode cX2_work 27 = .ok (.isub, 1) := by decide +kernel
theorem dX2_work_28 : decode cX2_work 28 = .ok (.iastore, 1) := by decide +kernel
theorem dX2_work_29 : decode cX2_work 29 = .ok (.aload_n 0, 1) := by decide +kernel
theorem dX2_work_30 : decode cX2_work 30 = .ok (.getfield 18, 3) := by decide +kernel
theorem dX2_work_33 : decode cX2_work 33 = .ok (.iload_n 1, 1) := by decide +kernel
theorem dX2_work_34 : decode cX2_work 34 = .ok (.iaload, 1) := by decide +kernel
theorem dX2_work_35 : decode cX2_work 35 = .ok (.ifCond .ne 12, 3) := by decide +kernel
theorem dX2_work_38 : decode cX2_work 38 = .ok (.aload_n 0, 1) := by decide +kernel
theorem dX2_work_39 : decode cX2_work 39 = .ok (.getfield 15, 3) := by decide +kernel
theorem dX2_work_42 : decode cX2_work 42 = .ok (.iload_n 1, 1) := by decide +kernel
theorem dX2_work_43 : decode cX2_work 43 = .ok (.iaload, 1) := by decide +kernel
theorem dX2_work_44 : decode cX2_work 44 = .ok (.goto 4, 3) := by decide +kernel
theorem dX2_work_47 : decode cX2_work 47 = .ok (.iconst (-1), 1) := by decide +kernel
theorem dX2_work_48 : decode cX2_work 48 = .ok (.ireturn, 1) := by decide +kernel
theorem dX4_init_0 : decode cX4_init 0 = .ok (.aload_n 0, 1) := by decide +kernel
theorem dX4_init_1 : decode cX4_init 1 = .ok (.invokespecial 3, 3) := by decide +kernel
theorem dX4_init_4 : decode cX4_init 4 = .ok (.aload_n 0, 1) := by decide +kernel
theorem dX4_init_5 : decode cX4_init 5 = .ok (.bipush 12, 2) := by decide +kernel
theorem dX4_init_7 : decode cX4_init 7 = .ok (.newarray .int, 2) := by decide +kernel
theorem dX4_init_9 : decode cX4_init 9 = .ok (.putfield 9, 3) := by decide +kernel
theorem dX4_init_12 : decode cX4_init 12 = .ok (.aload_n 0, 1) := by decide +kernel
theorem dX4_init_13 : decode cX4_init 13 = .ok (.bipush 12, 2) := by decide +kernel
theorem dX4_init_15 : decode cX4_init 15 = .ok (.newarray .int, 2) := by decide +kernel
theorem dX4_init_17 : decode cX4_init 17 = .ok (.putfield 15, 3) := by decide +kernel
theorem dX4_init_20 : decode cX4_init 20 = .ok (.aload_n 0, 1) := by decide +kernel
theorem dX4_init_21 : decode cX4_init 21 = .ok (.bipush 12, 2) := by decide +kernel
theorem dX4_init_23 : decode cX4_init 23 = .ok (.newarray .char, 2) := by decide +kernel
theorem dX4_init_25 : decode cX4_init 25 = .ok (.putfield 18, 3) := by decide +kernel
theorem dX4_init_28 : decode cX4_init 28 = .ok (.aload_n 0, 1) := by decide +kernel
theorem dX4_init_29 : decode cX4_init 29 = .ok (.bipush 12, 2) := by decide +kernel
theorem dX4_init_31 : decode cX4_init 31 = .ok (.newarray .int, 2) := by decide +kernel
theorem dX4_init_33 : decode cX4_init 33 = .ok (.putfield 22, 3) := by decide +kernel
theorem dX4_init_36 : decode cX4_init 36 = .ok (.aload_n 0, 1) := by decide +kernel
theorem dX4_init_37 : decode cX4_init 37 = .ok (.bipush 12, 2) := by decide +kernel
theorem dX4_init_39 : decode cX4_init 39 = .ok (.newarray .int, 2) := by decide +kernel
theorem dX4_init_41 : decode cX4_init 41 = .ok (.putfield 25, 3) := by decide +kernel
theorem dX4_init_44 : decode cX4_init 44 = .ok (.aload_n 0, 1) := by decide +kernel
theorem dX4_init_45 : decode cX4_init 45 = .ok (.bipush 12, 2) := by decide +kernel
theorem dX4_init_47 : decode cX4_init 47 = .ok (.newarray .int, 2) := by decide +kernel
theorem dX4_init_49 : decode cX4_init 49 = .ok (.putfield 28, 3) := by decide +kernel
theorem dX4_init_52 : decode cX4_init 52 = .ok (.aload_n 0, 1) := by decide +kernel
theorem dX4_init_53 : decode cX4_init 53 = .ok (.bipush 12, 2) := by decide +kernel
theorem dX4_init_55 : decode cX4_init 55 = .ok (.newarray .int, 2) := by decide +kernel
theorem dX4_init_57 : decode cX4_init 57 = .ok (.putfield 31, 3) := by decide +kernel
theorem dX4_init_60 : decode cX4_init 60 = .ok (.aload_n 0, 1) := by decide +kernel
theorem dX4_init_61 : decode cX4_init 61 = .ok (.bipush 12, 2) := by decide +kernel
theorem dX4_init_63 : decode cX4_init 63 = .ok (.newarray .int, 2) := by decide +kernel
theorem dX4_init_65 : decode cX4_init 65 = .ok (.putfield 34, 3) := by decide +kernel
theorem dX4_init_68 : decode cX4_init 68 = .ok (.return_, 1) := by decide +kernel
theorem dX4_has_0 : decode cX4_has 0 = .ok (.iload_n 1, 1) := by decide +kernel
theorem dX4_has_1 : decode cX4_has 1 = .ok (.ifCond .lt 21, 3) := by decide +kernel
theorem dX4_has_4 : decode cX4_has 4 = .ok (.iload_n 1, 1) := by decide +kernel
theorem dX4_has_5 : decode cX4_has 5 = .ok (.aload_n 0, 1) := by decide +kernel
theorem dX4_has_6 : decode cX4_has 6 = .ok (.getfield 37, 3) := by decide +kernel
theorem dX4_has_9 : decode cX4_has 9 = .ok (.if_icmp .ge 13, 3) := by decide +kernel
theorem dX4_has_12 : decode cX4_has 12 = .ok (.iload_n 1, 1) := by decide +kernel
theorem dX4_has_13 : decode cX4_has 13 = .ok (.bipush 12, 2) := by decide +kernel
theorem dX4_has_15 : decode cX4_has 15 = .ok (.if_icmp .ge 7, 3) := by decide +kernel
theorem dX4_has_18 : decode cX4_has 18 = .ok (.iconst 1, 1) := by decide +kernel
theorem dX4_has_19 : decode cX4_has 19 = .ok (.goto 4, 3) := by decide +kernel
theorem dX4_has_22 : decode cX4_has 22 = .ok (.iconst 0, 1) := by decide +kernel
theorem dX4_has_23 : decode cX4_has 23 = .ok (.ireturn, 1) := by decide +kernel
theorem dX4_copyFrom_0 : decode cX4_copyFrom 0 = .ok (.aload_n 1, 1) := by decide +kernel
theorem dX4_copyFrom_1 : decode cX4_copyFrom 1 = .ok (.getfield 9, 3) := by decide +kernel
theorem dX4_copyFrom_4 : decode cX4_copyFrom 4 = .ok (.iconst 0, 1) := by decide +kernel
theorem dX4_copyFrom_5 : decode cX4_copyFrom 5 = .ok (.aload_n 0, 1) := by decide +kernel
theorem dX4_copyFrom_6 : decode cX4_copyFrom 6 = .ok (.getfield 9, 3) := by decide +kernel
theorem dX4_copyFrom_9 : decode cX4_copyFrom 9 = .ok (.iconst 0, 1) := by decide +kernel
theorem dX4_copyFrom_10 : decode cX4_copyFrom 10 = .ok (.bipush 12, 2) := by decide +kernel
theorem dX4_copyFrom_12 : decode cX4_copyFrom 12 = .ok (.invokestatic 41, 3) := by decide +kernel
theorem dX4_copyFrom_15 : decode cX4_copyFrom 15 = .ok (.aload_n 1, 1) := by decide +kernel
theorem dX4_copyFrom_16 : decode cX4_copyFrom 16 = .ok (.getfield 15, 3) := by decide +kernel
theorem dX4_copyFrom_19 : decode cX4_copyFrom 19 = .ok (.iconst 0, 1) := by decide +kernel
theorem dX4_copyFrom_20 : decode cX4_copyFrom 20 = .ok (.aload_n 0, 1) := by decide +kernel
theorem dX4_copyFrom_21 : decode cX4_copyFrom 21 = .ok (.getfield 15, 3) := by decide +kernel
theorem dX4_copyFrom_24 : decode cX4_copyFrom 24 = .ok (.iconst 0, 1) := by decide +kernel
theorem dX4_copyFrom_25 : decode cX4_copyFrom 25 = .ok (.bipush 12, 2) := by decide +kernel
theorem dX4_copyFrom_27 : decode cX4_copyFrom 27 = .ok (.invokestatic 41, 3) := by decide +kernel
theorem dX4_copyFrom_30 : decode cX4_copyFrom 30 = .ok (.aload_n 1, 1) := by decide +kernel
theorem dX4_copyFrom_31 : decode cX4_copyFrom 31 = .ok (.getfield 18, 3) := by decide +kernel
theorem dX4_copyFrom_34 : decode cX4_copyFrom 34 = .ok (.iconst 0, 1) := by decide +kernel
theorem dX4_copyFrom_35 : decode cX4_copyFrom 35 = .ok (.aload_n 0, 1) := by decide +kernel
theorem dX4_copyFrom_36 : decode cX4_copyFrom 36 = .ok (.getfield 18, 3) := by decide +kernel
theorem dX4_copyFrom_39 : decode cX4_copyFrom 39 = .ok (.iconst 0, 1) := by decide +kernel
theorem dX4_copyFrom_40 : decode cX4_copyFrom 40 = .ok (.bipush 12, 2) := by decide +kernel
theorem dX4_copyFrom_42 : decode cX4_copyFrom 42 = .ok (.invokestatic 41, 3) := by decide +kernel
theorem dX4_copyFrom_45 : decode cX4_copyFrom 45 = .ok (.aload_n 1, 1) := by decide +kernel
theorem dX4_copyFrom_46 : decode cX4_copyFrom 46 = .ok (.getfield 22, 3) := by decide +kernel
theorem dX4_copyFrom_49 : decode cX4_copyFrom 49 = .ok (.iconst 0, 1) := by decide +kernel
theorem dX4_copyFrom_50 : decode cX4_copyFrom 50 = .ok (.aload_n 0, 1) := by decide +kernel
theorem dX4_copyFrom_51 : decode cX4_copyFrom 51 = .ok (.getfield 22, 3) := by decide +kernel
theorem dX4_copyFrom_54 : decode cX4_copyFrom 54 = .ok (.iconst 0, 1) := by decide +kernel
theorem dX4_copyFrom_55 : decode cX4_copyFrom 55 = .ok (.bipush 12, 2) := by decide +kernel
theorem dX4_copyFrom_57 : decode cX4_copyFrom 57 = .ok (.invokestatic 41, 3) := by decide +kernel
theorem dX4_copyFrom_60 : decode cX4_copyFrom 60 = .ok (.aload_n 1, 1) := by decide +kernel
theorem dX4_copyFrom_61 : decode cX4_copyFrom 61 = .ok (.getfield 25, 3) := by decide +kernel
theorem dX4_copyFrom_64 : decode cX4_copyFrom 64 = .ok (.iconst 0, 1) := by decide +kernel
theorem dX4_copyFrom_65 : decode cX4_copyFrom 65 = .ok (.aload_n 0, 1) := by decide +kernel
theorem dX4_copyFrom_66 : decode cX4_copyFrom 66 = .ok (.getfield 25, 3) := by decide +kernel
theorem dX4_copyFrom_69 : decode cX4_copyFrom 69 = .ok (.iconst 0, 1) := by decide +kernel
theorem dX4_copyFrom_70 : decode cX4_copyFrom 70 = .ok (.bipush 12, 2) := by decide +kernel
theorem dX4_copyFrom_72 : decode cX4_copyFrom 72 = .ok (.invokestatic 41, 3) := by decide +kernel
theorem dX4_copyFrom_75 : decode cX4_copyFrom 75 = .ok (.aload_n 1, 1) := by decide +kernel
theorem dX4_copyFrom_76 : decode cX4_copyFrom 76 = .ok (.getfield 28, 3) := by decide +kernel
theorem dX4_copyFrom_79 : decode cX4_copyFrom 79 = .ok (.iconst 0, 1) := by decide +kernel
theorem dX4_copyFrom_80 : decode cX4_copyFrom 80 = .ok (.aload_n 0, 1) := by decide +kernel
theorem dX4_copyFrom_81 : decode cX4_copyFrom 81 = .ok (.getfield 28, 3) := by decide +kernel
theorem dX4_copyFrom_84 : decode cX4_copyFrom 84 = .ok (.iconst 0, 1) := by decide +kernel
theorem dX4_copyFrom_85 : decode cX4_copyFrom 85 = .ok (.bipush 12, 2) := by decide +kernel
theorem dX4_copyFrom_87 : decode cX4_copyFrom 87 = .ok (.invokestatic 41, 3) := by decide +kernel
theorem dX4_copyFrom_90 : decode cX4_copyFrom 90 = .ok (.aload_n 1, 1) := by decide +kernel
theorem dX4_copyFrom_91 : decode cX4_copyFrom 91 = .ok (.getfield 31, 3) := by decide +kernel
theorem dX4_copyFrom_94 : decode cX4_copyFrom 94 = .ok (.iconst 0, 1) := by decide +kernel
theorem dX4_copyFrom_95 : decode cX4_copyFrom 95 = .ok (.aload_n 0, 1) := by decide +kernel
theorem dX4_copyFrom_96 : decode cX4_copyFrom 96 = .ok (.getfield 31, 3) := by decide +kernel
theorem dX4_copyFrom_99 : decode cX4_copyFrom 99 = .ok (.iconst 0, 1) := by decide +kernel
theorem dX4_copyFrom_100 : decode cX4_copyFrom 100 = .ok (.bipush 12, 2) := by decide +kernel
theorem dX4_copyFrom_102 : decode cX4_copyFrom 102 = .ok (.invokestatic 41, 3) := by decide +kernel
theorem dX4_copyFrom_105 : decode cX4_copyFrom 105 = .ok (.aload_n 1, 1) := by decide +kernel
theorem dX4_copyFrom_106 : decode cX4_copyFrom 106 = .ok (.getfield 34, 3) := by decide +kernel
theorem dX4_copyFrom_109 : decode cX4_copyFrom 109 = .ok (.iconst 0, 1) := by decide +kernel
theorem dX4_copyFrom_110 : decode cX4_copyFrom 110 = .ok (.aload_n 0, 1) := by decide +kernel
theorem dX4_copyFrom_111 : decode cX4_copyFrom 111 = .ok (.getfield 34, 3) := by decide +kernel
theorem dX4_copyFrom_114 : decode cX4_copyFrom 114 = .ok (.iconst 0, 1) := by decide +kernel
theorem dX4_copyFrom_115 : decode cX4_copyFrom 115 = .ok (.bipush 12, 2) := by decide +kernel
theorem dX4_copyFrom_117 : decode cX4_copyFrom 117 = .ok (.invokestatic 41, 3) := by decide +kernel
theorem dX4_copyFrom_120 : decode cX4_copyFrom 120 = .ok (.aload_n 0, 1) := by decide +kernel
theorem dX4_copyFrom_121 : decode cX4_copyFrom 121 = .ok (.aload_n 1, 1) := by decide +kernel
theorem dX4_copyFrom_122 : decode cX4_copyFrom 122 = .ok (.getfield 37, 3) := by decide +kernel
theorem dX4_copyFrom_125 : decode cX4_copyFrom 125 = .ok (.putfield 37, 3) := by decide +kernel
theorem dX4_copyFrom_128 : decode cX4_copyFrom 128 = .ok (.return_, 1) := by decide +kernel
theorem dX4_areConnected_0 : decode cX4_areConnected 0 = .ok (.iconst 0, 1) := by decide +kernel
theorem dX4_areConnected_1 : decode cX4_areConnected 1 = .ok (.istore_n 3, 1) := by decide +kernel
theorem dX4_areConnected_2 : decode cX4_areConnected 2 = .ok (.iload_n 3, 1) := by decide +kernel
theorem dX4_areConnected_3 : decode cX4_areConnected 3 = .ok (.aload_n 0, 1) := by decide +kernel
theorem dX4_areConnected_4 : decode cX4_areConnected 4 = .ok (.getfield 37, 3) := by decide +kernel
theorem dX4_areConnected_7 : decode cX4_areConnected 7 = .ok (.if_icmp .ge 37, 3) := by decide +kernel
theorem dX4_areConnected_10 : decode cX4_areConnected 10 = .ok (.iload_n 3, 1) := by decide +kernel
theorem dX4_areConnected_11 : decode cX4_areConnected 11 = .ok (.bipush 12, 2) := by decide +kernel
theorem dX4_areConnected_13 : decode cX4_areConnected 13 = .ok (.if_icmp .ge 31, 3) := by decide +kernel
theorem dX4_areConnected_16 : decode cX4_areConnected 16 = .ok (.aload_n 0, 1) := by decide +kernel
theorem dX4_areConnected_17 : decode cX4_areConnected 17 = .ok (.getfield 9, 3) := by decide +kernel
theorem dX4_areConnected_20 : decode cX4_areConnected 20 = .ok (.iload_n 3, 1) := by decide +kernel
theorem dX4_areConnected_21 : decode cX4_areConnected 21 = .ok (.iaload, 1) := by decide +kernel
theorem dX4_areConnected_22 : decode cX4_areConnected 22 = .ok (.iload_n 1, 1) := by decide +kernel
theorem dX4_areConnected_23 : decode cX4_areConnected 23 = .ok (.if_icmp .ne 15, 3) := by decide +kernel
theorem dX4_areConnected_26 : decode cX4_areConnected 26 = .ok (.aload_n 0, 1) := by decide +kernel
theorem dX4_areConnected_27 : decode cX4_areConnected 27 = .ok (.getfield 15, 3) := by decide +kernel
theorem dX4_areConnected_30 : decode cX4_areConnected 30 = .ok (.iload_n 3, 1) := by decide +kernel
theorem dX4_areConnected_31 : decode cX4_areConnected 31 = .ok (.iaload, 1) := by decide +kernel
theorem dX4_areConnected_32 : decode cX4_areConnected 32 = .ok (.iload_n 2, 1) := by decide +kernel
theorem dX4_areConnected_33 : decode cX4_areConnected 33 = .ok (.if_icmp .ne 5, 3) := by decide +kernel
theorem dX4_areConnected_36 : decode cX4_areConnected 36 = .ok (.iconst 1, 1) := by decide +kernel
theorem dX4_areConnected_37 : decode cX4_areConnected 37 = .ok (.ireturn, 1) := by decide +kernel
theorem dX4_areConnected_38 : decode cX4_areConnected 38 = .ok (.iinc 3 1, 3) := by decide +kernel
theorem dX4_areConnected_41 : decode cX4_areConnected 41 = .ok (.goto (-39), 3) := by decide +kernel
theorem dX4_areConnected_44 : decode cX4_areConnected 44 = .ok (.iconst 0, 1) := by decide +kernel
theorem dX4_areConnected_45 : decode cX4_areConnected 45 = .ok (.ireturn, 1) := by decide +kernel
theorem dX4_put_0 : decode cX4_put 0 = .ok (.aload_n 0, 1) := by decide +kernel
theorem dX4_put_1 : decode cX4_put 1 = .ok (.getfield 37, 3) := by decide +kernel
theorem dX4_put_4 : decode cX4_put 4 = .ok (.ifCond .lt 12, 3) := by decide +kernel
theorem dX4_put_7 : decode cX4_put 7 = .ok (.aload_n 0, 1) := by decide +kernel
theorem dX4_put_8 : decode cX4_put 8 = .ok (.getfield 37, 3) := by decide +kernel
theorem dX4_put_11 : decode cX4_put 11 = .ok (.bipush 12, 2) := by decide +kernel
theorem dX4_put_13 : decode cX4_put 13 = .ok (.if_icmp .lt 6, 3) := by decide +kernel
theorem dX4_put_16 : decode cX4_put 16 = .ok (.bipush (-4), 2) := by decide +kernel
theorem dX4_put_18 : decode cX4_put 18 = .ok (.ireturn, 1) := by decide +kernel
theorem dX4_put_19 : decode cX4_put 19 = .ok (.aload_n 0, 1) := by decide +kernel
theorem dX4_put_20 : decode cX4_put 20 = .ok (.getfield 37, 3) := by decide +kernel
theorem dX4_put_23 : decode cX4_put 23 = .ok (.istore 5, 2) := by decide +kernel
theorem dX4_put_25 : decode cX4_put 25 = .ok (.aload_n 0, 1) := by decide +kernel
theorem dX4_put_26 : decode cX4_put 26 = .ok (.getfield 9, 3) := by decide +kernel
theorem dX4_put_29 : decode cX4_put 29 = .ok (.iload 5, 2) := by decide +kernel
theorem dX4_put_31 : decode cX4_put 31 = .ok (.iload_n 1, 1) := by decide +kernel
theorem dX4_put_32 : decode cX4_put 32 = .ok (.iastore, 1) := by decide +kernel
theorem dX4_put_33 : decode cX4_put 33 = .ok (.aload_n 0, 1) := by decide +kernel
theorem dX4_put_34 : decode cX4_put 34 = .ok (.getfield 15, 3) := by decide +kernel
theorem dX4_put_37 : decode cX4_put 37 = .ok (.iload 5, 2) := by decide +kernel
theorem dX4_put_39 : decode cX4_put 39 = .ok (.iload_n 2, 1) := by decide +kernel
theorem dX4_put_40 : decode cX4_put 40 = .ok (.iastore, 1) := by decide +kernel
theorem dX4_put_41 : decode cX4_put 41 = .ok (.aload_n 0, 1) := by decide +kernel
theorem dX4_put_42 : decode cX4_put 42 = .ok (.getfield 18, 3) := by decide +kernel
theorem dX4_put_45 : decode cX4_put 45 = .ok (.iload 5, 2) := by decide +kernel
theorem dX4_put_47 : decode cX4_put 47 = .ok (.iload_n 3, 1) := by decide +kernel
theorem dX4_put_48 : decode cX4_put 48 = .ok (.castore, 1) := by decide +kernel
theorem dX4_put_49 : decode cX4_put 49 = .ok (.aload_n 0, 1) := by decide +kernel
theorem dX4_put_50 : decode cX4_put 50 = .ok (.getfield 22, 3) := by decide +kernel
theorem dX4_put_53 : decode cX4_put 53 = .ok (.iload 5, 2) := by decide +kernel
theorem dX4_put_55 : decode cX4_put 55 = .ok (.iload 4, 2) := by decide +kernel
theorem dX4_put_57 : decode cX4_put 57 = .ok (.iastore, 1) := by decide +kernel
theorem dX4_put_58 : decode cX4_put 58 = .ok (.aload_n 0, 1) := by decide +kernel
theorem dX4_put_59 : decode cX4_put 59 = .ok (.getfield 25, 3) := by decide +kernel
theorem dX4_put_62 : decode cX4_put 62 = .ok (.iload 5, 2) := by decide +kernel
theorem dX4_put_64 : decode cX4_put 64 = .ok (.iconst 0, 1) := by decide +kernel
theorem dX4_put_65 : decode cX4_put 65 = .ok (.iastore, 1) := by decide +kernel
theorem dX4_put_66 : decode cX4_put 66 = .ok (.aload_n 0, 1) := by decide +kernel
theorem dX4_put_67 : decode cX4_put 67 = .ok (.getfield 28, 3) := by decide +kernel
theorem dX4_put_70 : decode cX4_put 70 = .ok (.iload 5, 2) := by decide +kernel
theorem dX4_put_72 : decode cX4_put 72 = .ok (.iconst 0, 1) := by decide +kernel
theorem dX4_put_73 : decode cX4_put 73 = .ok (.iastore, 1) := by decide +kernel
theorem dX4_put_74 : decode cX4_put 74 = .ok (.aload_n 0, 1) := by decide +kernel
theorem dX4_put_75 : decode cX4_put 75 = .ok (.getfield 31, 3) := by decide +kernel
theorem dX4_put_78 : decode cX4_put 78 = .ok (.iload 5, 2) := by decide +kernel
theorem dX4_put_80 : decode cX4_put 80 = .ok (.iconst 0, 1) := by decide +kernel
theorem dX4_put_81 : decode cX4_put 81 = .ok (.iastore, 1) := by decide +kernel
theorem dX4_put_82 : decode cX4_put 82 = .ok (.aload_n 0, 1) := by decide +kernel
theorem dX4_put_83 : decode cX4_put 83 = .ok (.getfield 34, 3) := by decide +kernel
theorem dX4_put_86 : decode cX4_put 86 = .ok (.iload 5, 2) := by decide +kernel
theorem dX4_put_88 : decode cX4_put 88 = .ok (.iconst 0, 1) := by decide +kernel
theorem dX4_put_89 : decode cX4_put 89 = .ok (.iastore, 1) := by decide +kernel
theorem dX4_put_90 : decode cX4_put 90 = .ok (.aload_n 0, 1) := by decide +kernel
theorem dX4_put_91 : decode cX4_put 91 = .ok (.dup, 1) := by decide +kernel
theorem dX4_put_92 : decode cX4_put 92 = .ok (.getfield 37, 3) := by decide +kernel
theorem dX4_put_95 : decode cX4_put 95 = .ok (.iconst 1, 1) := by decide +kernel
theorem dX4_put_96 : decode cX4_put 96 = .ok (.iadd, 1) := by decide +kernel
theorem dX4_put_97 : decode cX4_put 97 = .ok (.putfield 37, 3) := by decide +kernel
theorem dX4_put_100 : decode cX4_put 100 = .ok (.iload 5, 2) := by decide +kernel
theorem dX4_put_102 : decode cX4_put 102 = .ok (.ireturn, 1) := by decide +kernel
theorem dX4_otherEnd_0 : decode cX4_otherEnd 0 = .ok (.iload_n 1, 1) := by decide +kernel
theorem dX4_otherEnd_1 : decode cX4_otherEnd 1 = .ok (.ifCond .lt 9, 3) := by decide +kernel
theorem dX4_otherEnd_4 : decode cX4_otherEnd 4 = .ok (.iload_n 1, 1) := by decide +kernel
theorem dX4_otherEnd_5 : decode cX4_otherEnd 5 = .ok (.bipush 12, 2) := by decide +kernel
theorem dX4_otherEnd_7 : decode cX4_otherEnd 7 = .ok (.if_icmp .lt 5, 3) := by decide +kernel
theorem dX4_otherEnd_10 : decode cX4_otherEnd 10 = .ok (.iconst (-1), 1) := by decide +kernel
theorem dX4_otherEnd_11 : decode cX4_otherEnd 11 = .ok (.ireturn, 1) := by decide +kernel
theorem dX4_otherEnd_12 : decode cX4_otherEnd 12 = .ok (.aload_n 0, 1) := by decide +kernel
theorem dX4_otherEnd_13 : decode cX4_otherEnd 13 = .ok (.getfield 9, 3) := by decide +kernel
theorem dX4_otherEnd_16 : decode cX4_otherEnd 16 = .ok (.iload_n 1, 1) := by decide +kernel
theorem dX4_otherEnd_17 : decode cX4_otherEnd 17 = .ok (.iaload, 1) := by decide +kernel
theorem dX4_otherEnd_18 : decode cX4_otherEnd 18 = .ok (.iload_n 2, 1) := by decide +kernel
theorem dX4_otherEnd_19 : decode cX4_otherEnd 19 = .ok (.if_icmp .ne 10, 3) := by decide +kernel
theorem dX4_otherEnd_22 : decode cX4_otherEnd 22 = .ok (.aload_n 0, 1) := by decide +kernel
theorem dX4_otherEnd_23 : decode cX4_otherEnd 23 = .ok (.getfield 15, 3) := by decide +kernel
theorem dX4_otherEnd_26 : decode cX4_otherEnd 26 = .ok (.iload_n 1, 1) := by decide +kernel
theorem dX4_otherEnd_27 : decode cX4_otherEnd 27 = .ok (.iaload, 1) := by decide +kernel
theorem dX4_otherEnd_28 : decode cX4_otherEnd 28 = .ok (.ireturn, 1) := by decide +kernel
theorem dX4_otherEnd_29 : decode cX4_otherEnd 29 = .ok (.aload_n 0, 1) := by decide +kernel
theorem dX4_otherEnd_30 : decode cX4_otherEnd 30 = .ok (.getfield 15, 3) := by decide +kernel
theorem dX4_otherEnd_33 : decode cX4_otherEnd 33 = .ok (.iload_n 1, 1) := by decide +kernel
theorem dX4_otherEnd_34 : decode cX4_otherEnd 34 = .ok (.iaload, 1) := by decide +kernel
theorem dX4_otherEnd_35 : decode cX4_otherEnd 35 = .ok (.iload_n 2, 1) := by decide +kernel
theorem dX4_otherEnd_36 : decode cX4_otherEnd 36 = .ok (.if_icmp .ne 12, 3) := by decide +kernel
theorem dX4_otherEnd_39 : decode cX4_otherEnd 39 = .ok (.aload_n 0, 1) := by decide +kernel
theorem dX4_otherEnd_40 : decode cX4_otherEnd 40 = .ok (.getfield 9, 3) := by decide +kernel
theorem dX4_otherEnd_43 : decode cX4_otherEnd 43 = .ok (.iload_n 1, 1) := by decide +kernel
theorem dX4_otherEnd_44 : decode cX4_otherEnd 44 = .ok (.iaload, 1) := by decide +kernel
theorem dX4_otherEnd_45 : decode cX4_otherEnd 45 = .ok (.goto 4, 3) := by decide +kernel
theorem dX4_otherEnd_48 : decode cX4_otherEnd 48 = .ok (.iconst (-1), 1) := by decide +kernel
theorem dX4_otherEnd_49 : decode cX4_otherEnd 49 = .ok (.ireturn, 1) := by decide +kernel
theorem dX4_excess_0 : decode cX4_excess 0 = .ok (.aload_n 0, 1) := by decide +kernel
theorem dX4_excess_1 : decode cX4_excess 1 = .ok (.iload_n 1, 1) := by decide +kernel
theorem dX4_excess_2 : decode cX4_excess 2 = .ok (.invokevirtual 47, 3) := by decide +kernel
theorem dX4_excess_5 : decode cX4_excess 5 = .ok (.ifCond .ne 5, 3) := by decide +kernel
theorem dX4_excess_8 : decode cX4_excess 8 = .ok (.iconst 0, 1) := by decide +kernel
theorem dX4_excess_9 : decode cX4_excess 9 = .ok (.ireturn, 1) := by decide +kernel
theorem dX4_excess_10 : decode cX4_excess 10 = .ok (.aload_n 0, 1) := by decide +kernel
theorem dX4_excess_11 : decode cX4_excess 11 = .ok (.getfield 18, 3) := by decide +kernel
theorem dX4_excess_14 : decode cX4_excess 14 = .ok (.iload_n 1, 1) := by decide +kernel
theorem dX4_excess_15 : decode cX4_excess 15 = .ok (.caload, 1) := by decide +kernel
theorem dX4_excess_16 : decode cX4_excess 16 = .ok (.bipush 97, 2) := by decide +kernel
theorem dX4_excess_18 : decode cX4_excess 18 = .ok (.if_icmp .ne 7, 3) := by decide +kernel
theorem dX4_excess_21 : decode cX4_excess 21 = .ok (.iconst 5, 1) := by decide +kernel
theorem dX4_excess_22 : decode cX4_excess 22 = .ok (.goto 21, 3) := by decide +kernel
theorem dX4_excess_25 : decode cX4_excess 25 = .ok (.aload_n 0, 1) := by decide +kernel
theorem dX4_excess_26 : decode cX4_excess 26 = .ok (.getfield 18, 3) := by decide +kernel
theorem dX4_excess_29 : decode cX4_excess 29 = .ok (.iload_n 1, 1) := by decide +kernel
theorem dX4_excess_30 : decode cX4_excess 30 = .ok (.caload, 1) := by decide +kernel
theorem dX4_excess_31 : decode cX4_excess 31 = .ok (.bipush 98, 2) := by decide +kernel
theorem dX4_excess_33 : decode cX4_excess 33 = .ok (.if_icmp .ne 8, 3) := by decide +kernel
theorem dX4_excess_36 : decode cX4_excess 36 = .ok (.bipush 10, 2) := by decide +kernel
theorem dX4_excess_38 : decode cX4_excess 38 = .ok (.goto 5, 3) := by decide +kernel
theorem dX4_excess_41 : decode cX4_excess 41 = .ok (.bipush 15, 2) := by decide +kernel
theorem dX4_excess_43 : decode cX4_excess 43 = .ok (.istore_n 2, 1) := by decide +kernel
theorem dX4_excess_44 : decode cX4_excess 44 = .ok (.aload_n 0, 1) := by decide +kernel
theorem dX4_excess_45 : decode cX4_excess 45 = .ok (.getfield 25, 3) := by decide +kernel
theorem dX4_excess_48 : decode cX4_excess 48 = .ok (.iload_n 1, 1) := by decide +kernel
theorem dX4_excess_49 : decode cX4_excess 49 = .ok (.iaload, 1) := by decide +kernel
theorem dX4_excess_50 : decode cX4_excess 50 = .ok (.iload_n 2, 1) := by decide +kernel
theorem dX4_excess_51 : decode cX4_excess 51 = .ok (.isub, 1) := by decide +kernel
theorem dX4_excess_52 : decode cX4_excess 52 = .ok (.ireturn, 1) := by decide +kernel
theorem dX4_saltLeft_0 : decode cX4_saltLeft 0 = .ok (.aload_n 0, 1) := by decide +kernel
theorem dX4_saltLeft_1 : decode cX4_saltLeft 1 = .ok (.iload_n 1, 1) := by decide +kernel
theorem dX4_saltLeft_2 : decode cX4_saltLeft 2 = .ok (.invokevirtual 47, 3) := by decide +kernel
theorem dX4_saltLeft_5 : decode cX4_saltLeft 5 = .ok (.ifCond .eq 14, 3) := by decide +kernel
theorem dX4_saltLeft_8 : decode cX4_saltLeft 8 = .ok (.aload_n 0, 1) := by decide +kernel
theorem dX4_saltLeft_9 : decode cX4_saltLeft 9 = .ok (.getfield 28, 3) := by decide +kernel
theorem dX4_saltLeft_12 : decode cX4_saltLeft 12 = .ok (.iload_n 1, 1) := by decide +kernel
theorem dX4_saltLeft_13 : decode cX4_saltLeft 13 = .ok (.iaload, 1) := by decide +kernel
theorem dX4_saltLeft_14 : decode cX4_saltLeft 14 = .ok (.iload_n 2, 1) := by decide +kernel
theorem dX4_saltLeft_15 : decode cX4_saltLeft 15 = .ok (.isub, 1) := by decide +kernel
theorem dX4_saltLeft_16 : decode cX4_saltLeft 16 = .ok (.goto 4, 3) := by decide +kernel
theorem dX4_saltLeft_19 : decode cX4_saltLeft 19 = .ok (.iconst 0, 1) := by decide +kernel
theorem dX4_saltLeft_20 : decode cX4_saltLeft 20 = .ok (.ireturn, 1) := by decide +kernel
theorem dX4_timesCleared_0 : decode cX4_timesCleared 0 = .ok (.aload_n 0, 1) := by decide +kernel
theorem dX4_timesCleared_1 : decode cX4_timesCleared 1 = .ok (.iload_n 1, 1) := by decide +kernel
theorem dX4_timesCleared_2 : decode cX4_timesCleared 2 = .ok (.invokevirtual 47, 3) := by decide +kernel
theorem dX4_timesCleared_5 : decode cX4_timesCleared 5 = .ok (.ifCond .eq 12, 3) := by decide +kernel
theorem dX4_timesCleared_8 : decode cX4_timesCleared 8 = .ok (.aload_n 0, 1) := by decide +kernel
theorem dX4_timesCleared_9 : decode cX4_timesCleared 9 = .ok (.getfield 34, 3) := by decide +kernel
theorem dX4_timesCleared_12 : decode cX4_timesCleared 12 = .ok (.iload_n 1, 1) := by decide +kernel
theorem dX4_timesCleared_13 : decode cX4_timesCleared 13 = .ok (.iaload, 1) := by decide +kernel
theorem dX4_timesCleared_14 : decode cX4_timesCleared 14 = .ok (.goto 4, 3) := by decide +kernel
theorem dX4_timesCleared_17 : decode cX4_timesCleared 17 = .ok (.iconst 0, 1) := by decide +kernel
theorem dX4_timesCleared_18 : decode cX4_timesCleared 18 = .ok (.ireturn, 1) := by decide +kernel
theorem dX4_atRank_0 : decode cX4_atRank 0 = .ok (.iconst 0, 1) := by decide +kernel
theorem dX4_atRank_1 : decode cX4_atRank 1 = .ok (.istore_n 2, 1) := by decide +kernel
theorem dX4_atRank_2 : decode cX4_atRank 2 = .ok (.iload_n 2, 1) := by decide +kernel
theorem dX4_atRank_3 : decode cX4_atRank 3 = .ok (.aload_n 0, 1) := by decide +kernel
theorem dX4_atRank_4 : decode cX4_atRank 4 = .ok (.getfield 37, 3) := by decide +kernel
theorem dX4_atRank_7 : decode cX4_atRank 7 = .ok (.if_icmp .ge 20, 3) := by decide +kernel
theorem dX4_atRank_10 : decode cX4_atRank 10 = .ok (.aload_n 0, 1) := by decide +kernel
theorem dX4_atRank_11 : decode cX4_atRank 11 = .ok (.iload_n 2, 1) := by decide +kernel
theorem dX4_atRank_12 : decode cX4_atRank 12 = .ok (.invokevirtual 51, 3) := by decide +kernel
theorem dX4_atRank_15 : decode cX4_atRank 15 = .ok (.iload_n 1, 1) := by decide +kernel
theorem dX4_atRank_16 : decode cX4_atRank 16 = .ok (.if_icmp .ne 5, 3) := by decide +kernel
theorem dX4_atRank_19 : decode cX4_atRank 19 = .ok (.iload_n 2, 1) := by decide +kernel
theorem dX4_atRank_20 : decode cX4_atRank 20 = .ok (.ireturn, 1) := by decide +kernel
theorem dX4_atRank_21 : decode cX4_atRank 21 = .ok (.iinc 2 1, 3) := by decide +kernel
theorem dX4_atRank_24 : decode cX4_atRank 24 = .ok (.goto (-22), 3) := by decide +kernel
theorem dX4_atRank_27 : decode cX4_atRank 27 = .ok (.iconst (-1), 1) := by decide +kernel
theorem dX4_atRank_28 : decode cX4_atRank 28 = .ok (.ireturn, 1) := by decide +kernel
theorem dX4_rankOf_0 : decode cX4_rankOf 0 = .ok (.iconst 0, 1) := by decide +kernel
theorem dX4_rankOf_1 : decode cX4_rankOf 1 = .ok (.istore_n 2, 1) := by decide +kernel
theorem dX4_rankOf_2 : decode cX4_rankOf 2 = .ok (.iconst 0, 1) := by decide +kernel
theorem dX4_rankOf_3 : decode cX4_rankOf 3 = .ok (.istore_n 3, 1) := by decide +kernel
theorem dX4_rankOf_4 : decode cX4_rankOf 4 = .ok (.iload_n 3, 1) := by decide +kernel
theorem dX4_rankOf_5 : decode cX4_rankOf 5 = .ok (.aload_n 0, 1) := by decide +kernel
theorem dX4_rankOf_6 : decode cX4_rankOf 6 = .ok (.getfield 37, 3) := by decide +kernel
theorem dX4_rankOf_9 : decode cX4_rankOf 9 = .ok (.if_icmp .ge 21, 3) := by decide +kernel
theorem dX4_rankOf_12 : decode cX4_rankOf 12 = .ok (.aload_n 0, 1) := by decide +kernel
theorem dX4_rankOf_13 : decode cX4_rankOf 13 = .ok (.iload_n 3, 1) := by decide +kernel
theorem dX4_rankOf_14 : decode cX4_rankOf 14 = .ok (.iload_n 1, 1) := by decide +kernel
theorem dX4_rankOf_15 : decode cX4_rankOf 15 = .ok (.invokevirtual 55, 3) := by decide +kernel
theorem dX4_rankOf_18 : decode cX4_rankOf 18 = .ok (.ifCond .eq 6, 3) := by decide +kernel
theorem dX4_rankOf_21 : decode cX4_rankOf 21 = .ok (.iinc 2 1, 3) := by decide +kernel
theorem dX4_rankOf_24 : decode cX4_rankOf 24 = .ok (.iinc 3 1, 3) := by decide +kernel
theorem dX4_rankOf_27 : decode cX4_rankOf 27 = .ok (.goto (-23), 3) := by decide +kernel
theorem dX4_rankOf_30 : decode cX4_rankOf 30 = .ok (.iload_n 2, 1) := by decide +kernel
theorem dX4_rankOf_31 : decode cX4_rankOf 31 = .ok (.ireturn, 1) := by decide +kernel
theorem dX4_precedes_0 : decode cX4_precedes 0 = .ok (.aload_n 0, 1) := by decide +kernel
theorem dX4_precedes_1 : decode cX4_precedes 1 = .ok (.iload_n 1, 1) := by decide +kernel
theorem dX4_precedes_2 : decode cX4_precedes 2 = .ok (.invokevirtual 47, 3) := by decide +kernel
theorem dX4_precedes_5 : decode cX4_precedes 5 = .ok (.ifCond .eq 11, 3) := by decide +kernel
theorem dX4_precedes_8 : decode cX4_precedes 8 = .ok (.aload_n 0, 1) := by decide +kernel
theorem dX4_precedes_9 : decode cX4_precedes 9 = .ok (.iload_n 2, 1) := by decide +kernel
theorem dX4_precedes_10 : decode cX4_precedes 10 = .ok (.invokevirtual 47, 3) := by decide +kernel
theorem dX4_precedes_13 : decode cX4_precedes 13 = .ok (.ifCond .ne 5, 3) := by decide +kernel
theorem dX4_precedes_16 : decode cX4_precedes 16 = .ok (.iconst 0, 1) := by decide +kernel
theorem dX4_precedes_17 : decode cX4_precedes 17 = .ok (.ireturn, 1) := by decide +kernel
theorem dX4_precedes_18 : decode cX4_precedes 18 = .ok (.aload_n 0, 1) := by decide +kernel
theorem dX4_precedes_19 : decode cX4_precedes 19 = .ok (.iload_n 1, 1) := by decide +kernel
theorem dX4_precedes_20 : decode cX4_precedes 20 = .ok (.invokevirtual 59, 3) := by decide +kernel
theorem dX4_precedes_23 : decode cX4_precedes 23 = .ok (.aload_n 0, 1) := by decide +kernel
theorem dX4_precedes_24 : decode cX4_precedes 24 = .ok (.iload_n 2, 1) := by decide +kernel
theorem dX4_precedes_25 : decode cX4_precedes 25 = .ok (.invokevirtual 59, 3) := by decide +kernel
theorem dX4_precedes_28 : decode cX4_precedes 28 = .ok (.if_icmp .eq 22, 3) := by decide +kernel
theorem dX4_precedes_31 : decode cX4_precedes 31 = .ok (.aload_n 0, 1) := by decide +kernel
theorem dX4_precedes_32 : decode cX4_precedes 32 = .ok (.iload_n 1, 1) := by decide +kernel
theorem dX4_precedes_33 : decode cX4_precedes 33 = .ok (.invokevirtual 59, 3) := by decide +kernel
theorem dX4_precedes_36 : decode cX4_precedes 36 = .ok (.aload_n 0, 1) := by decide +kernel
theorem dX4_precedes_37 : decode cX4_precedes 37 = .ok (.iload_n 2, 1) := by decide +kernel
theorem dX4_precedes_38 : decode cX4_precedes 38 = .ok (.invokevirtual 59, 3) := by decide +kernel
theorem dX4_precedes_41 : decode cX4_precedes 41 = .ok (.if_icmp .le 7, 3) := by decide +kernel
theorem dX4_precedes_44 : decode cX4_precedes 44 = .ok (.iconst 1, 1) := by decide +kernel
theorem dX4_precedes_45 : decode cX4_precedes 45 = .ok (.goto 4, 3) := by decide +kernel
theorem dX4_precedes_48 : decode cX4_precedes 48 = .ok (.iconst 0, 1) := by decide +kernel
theorem dX4_precedes_49 : decode cX4_precedes 49 = .ok (.ireturn, 1) := by decide +kernel
theorem dX4_precedes_50 : decode cX4_precedes 50 = .ok (.aload_n 0, 1) := by decide +kernel
theorem dX4_precedes_51 : decode cX4_precedes 51 = .ok (.getfield 18, 3) := by decide +kernel
theorem dX4_precedes_54 : decode cX4_precedes 54 = .ok (.iload_n 1, 1) := by decide +kernel
theorem dX4_precedes_55 : decode cX4_precedes 55 = .ok (.caload, 1) := by decide +kernel
theorem dX4_precedes_56 : decode cX4_precedes 56 = .ok (.aload_n 0, 1) := by decide +kernel
theorem dX4_precedes_57 : decode cX4_precedes 57 = .ok (.getfield 18, 3) := by decide +kernel
theorem dX4_precedes_60 : decode cX4_precedes 60 = .ok (.iload_n 2, 1) := by decide +kernel
theorem dX4_precedes_61 : decode cX4_precedes 61 = .ok (.caload, 1) := by decide +kernel
theorem dX4_precedes_62 : decode cX4_precedes 62 = .ok (.if_icmp .eq 24, 3) := by decide +kernel
theorem dX4_precedes_65 : decode cX4_precedes 65 = .ok (.aload_n 0, 1) := by decide +kernel
theorem dX4_precedes_66 : decode cX4_precedes 66 = .ok (.getfield 18, 3) := by decide +kernel
theorem dX4_precedes_69 : decode cX4_precedes 69 = .ok (.iload_n 1, 1) := by decide +kernel
theorem dX4_precedes_70 : decode cX4_precedes 70 = .ok (.caload, 1) := by decide +kernel
theorem dX4_precedes_71 : decode cX4_precedes 71 = .ok (.aload_n 0, 1) := by decide +kernel
theorem dX4_precedes_72 : decode cX4_precedes 72 = .ok (.getfield 18, 3) := by decide +kernel
theorem dX4_precedes_75 : decode cX4_precedes 75 = .ok (.iload_n 2, 1) := by decide +kernel
theorem dX4_precedes_76 : decode cX4_precedes 76 = .ok (.caload, 1) := by decide +kernel
theorem dX4_precedes_77 : decode cX4_precedes 77 = .ok (.if_icmp .ge 7, 3) := by decide +kernel
theorem dX4_precedes_80 : decode cX4_precedes 80 = .ok (.iconst 1, 1) := by decide +kernel
theorem dX4_precedes_81 : decode cX4_precedes 81 = .ok (.goto 4, 3) := by decide +kernel
theorem dX4_precedes_84 : decode cX4_precedes 84 = .ok (.iconst 0, 1) := by decide +kernel
theorem dX4_precedes_85 : decode cX4_precedes 85 = .ok (.ireturn, 1) := by decide +kernel
theorem dX4_precedes_86 : decode cX4_precedes 86 = .ok (.iload_n 1, 1) := by decide +kernel
theorem dX4_precedes_87 : decode cX4_precedes 87 = .ok (.iload_n 2, 1) := by decide +kernel
theorem dX4_precedes_88 : decode cX4_precedes 88 = .ok (.if_icmp .ge 7, 3) := by decide +kernel
theorem dX4_precedes_91 : decode cX4_precedes 91 = .ok (.iconst 1, 1) := by decide +kernel
theorem dX4_precedes_92 : decode cX4_precedes 92 = .ok (.goto 4, 3) := by decide +kernel
theorem dX4_precedes_95 : decode cX4_precedes 95 = .ok (.iconst 0, 1) := by decide +kernel
theorem dX4_precedes_96 : decode cX4_precedes 96 = .ok (.ireturn, 1) := by decide +kernel
theorem dX4_snowSum_0 : decode cX4_snowSum 0 = .ok (.iconst 0, 1) := by decide +kernel
theorem dX4_snowSum_1 : decode cX4_snowSum 1 = .ok (.istore_n 1, 1) := by decide +kernel
theorem dX4_snowSum_2 : decode cX4_snowSum 2 = .ok (.iconst 0, 1) := by decide +kernel
theorem dX4_snowSum_3 : decode cX4_snowSum 3 = .ok (.istore_n 2, 1) := by decide +kernel
theorem dX4_snowSum_4 : decode cX4_snowSum 4 = .ok (.iload_n 2, 1) := by decide +kernel
theorem dX4_snowSum_5 : decode cX4_snowSum 5 = .ok (.aload_n 0, 1) := by decide +kernel
theorem dX4_snowSum_6 : decode cX4_snowSum 6 = .ok (.getfield 37, 3) := by decide +kernel
theorem dX4_snowSum_9 : decode cX4_snowSum 9 = .ok (.if_icmp .ge 24, 3) := by decide +kernel
theorem dX4_snowSum_12 : decode cX4_snowSum 12 = .ok (.iload_n 2, 1) := by decide +kernel
theorem dX4_snowSum_13 : decode cX4_snowSum 13 = .ok (.bipush 12, 2) := by decide +kernel
theorem dX4_snowSum_15 : decode cX4_snowSum 15 = .ok (.if_icmp .ge 18, 3) := by decide +kernel
theorem dX4_snowSum_18 : decode cX4_snowSum 18 = .ok (.iload_n 1, 1) := by decide +kernel
theorem dX4_snowSum_19 : decode cX4_snowSum 19 = .ok (.aload_n 0, 1) := by decide +kernel
theorem dX4_snowSum_20 : decode cX4_snowSum 20 = .ok (.getfield 25, 3) := by decide +kernel
theorem dX4_snowSum_23 : decode cX4_snowSum 23 = .ok (.iload_n 2, 1) := by decide +kernel
theorem dX4_snowSum_24 : decode cX4_snowSum 24 = .ok (.iaload, 1) := by decide +kernel
theorem dX4_snowSum_25 : decode cX4_snowSum 25 = .ok (.iadd, 1) := by decide +kernel
theorem dX4_snowSum_26 : decode cX4_snowSum 26 = .ok (.istore_n 1, 1) := by decide +kernel
theorem dX4_snowSum_27 : decode cX4_snowSum 27 = .ok (.iinc 2 1, 3) := by decide +kernel
theorem dX4_snowSum_30 : decode cX4_snowSum 30 = .ok (.goto (-26), 3) := by decide +kernel
theorem dX4_snowSum_33 : decode cX4_snowSum 33 = .ok (.iload_n 1, 1) := by decide +kernel
theorem dX4_snowSum_34 : decode cX4_snowSum 34 = .ok (.ireturn, 1) := by decide +kernel
theorem dX4_saltedCount_0 : decode cX4_saltedCount 0 = .ok (.iconst 0, 1) := by decide +kernel
theorem dX4_saltedCount_1 : decode cX4_saltedCount 1 = .ok (.istore_n 2, 1) := by decide +kernel
theorem dX4_saltedCount_2 : decode cX4_saltedCount 2 = .ok (.iconst 0, 1) := by decide +kernel
theorem dX4_saltedCount_3 : decode cX4_saltedCount 3 = .ok (.istore_n 3, 1) := by decide +kernel
theorem dX4_saltedCount_4 : decode cX4_saltedCount 4 = .ok (.iload_n 3, 1) := by decide +kernel
theorem dX4_saltedCount_5 : decode cX4_saltedCount 5 = .ok (.aload_n 0, 1) := by decide +kernel
theorem dX4_saltedCount_6 : decode cX4_saltedCount 6 = .ok (.getfield 37, 3) := by decide +kernel
theorem dX4_saltedCount_9 : decode cX4_saltedCount 9 = .ok (.if_icmp .ge 21, 3) := by decide +kernel
theorem dX4_saltedCount_12 : decode cX4_saltedCount 12 = .ok (.aload_n 0, 1) := by decide +kernel
theorem dX4_saltedCount_13 : decode cX4_saltedCount 13 = .ok (.iload_n 3, 1) := by decide +kernel
theorem dX4_saltedCount_14 : decode cX4_saltedCount 14 = .ok (.iload_n 1, 1) := by decide +kernel
theorem dX4_saltedCount_15 : decode cX4_saltedCount 15 = .ok (.invokevirtual 62, 3) := by decide +kernel
theorem dX4_saltedCount_18 : decode cX4_saltedCount 18 = .ok (.ifCond .le 6, 3) := by decide +kernel
theorem dX4_saltedCount_21 : decode cX4_saltedCount 21 = .ok (.iinc 2 1, 3) := by decide +kernel
theorem dX4_saltedCount_24 : decode cX4_saltedCount 24 = .ok (.iinc 3 1, 3) := by decide +kernel
theorem dX4_saltedCount_27 : decode cX4_saltedCount 27 = .ok (.goto (-23), 3) := by decide +kernel
theorem dX4_saltedCount_30 : decode cX4_saltedCount 30 = .ok (.iload_n 2, 1) := by decide +kernel
theorem dX4_saltedCount_31 : decode cX4_saltedCount 31 = .ok (.ireturn, 1) := by decide +kernel
theorem dX4_complaintSum_0 : decode cX4_complaintSum 0 = .ok (.iconst 0, 1) := by decide +kernel
theorem dX4_complaintSum_1 : decode cX4_complaintSum 1 = .ok (.istore_n 1, 1) := by decide +kernel
theorem dX4_complaintSum_2 : decode cX4_complaintSum 2 = .ok (.iconst 0, 1) := by decide +kernel
theorem dX4_complaintSum_3 : decode cX4_complaintSum 3 = .ok (.istore_n 2, 1) := by decide +kernel
theorem dX4_complaintSum_4 : decode cX4_complaintSum 4 = .ok (.iload_n 2, 1) := by decide +kernel
theorem dX4_complaintSum_5 : decode cX4_complaintSum 5 = .ok (.aload_n 0, 1) := by decide +kernel
theorem dX4_complaintSum_6 : decode cX4_complaintSum 6 = .ok (.getfield 37, 3) := by decide +kernel
theorem dX4_complaintSum_9 : decode cX4_complaintSum 9 = .ok (.if_icmp .ge 24, 3) := by decide +kernel
theorem dX4_complaintSum_12 : decode cX4_complaintSum 12 = .ok (.iload_n 2, 1) := by decide +kernel
theorem dX4_complaintSum_13 : decode cX4_complaintSum 13 = .ok (.bipush 12, 2) := by decide +kernel
theorem dX4_complaintSum_15 : decode cX4_complaintSum 15 = .ok (.if_icmp .ge 18, 3) := by decide +kernel
theorem dX4_complaintSum_18 : decode cX4_complaintSum 18 = .ok (.iload_n 1, 1) := by decide +kernel
theorem dX4_complaintSum_19 : decode cX4_complaintSum 19 = .ok (.aload_n 0, 1) := by decide +kernel
theorem dX4_complaintSum_20 : decode cX4_complaintSum 20 = .ok (.getfield 31, 3) := by decide +kernel
theorem dX4_complaintSum_23 : decode cX4_complaintSum 23 = .ok (.iload_n 2, 1) := by decide +kernel
theorem dX4_complaintSum_24 : decode cX4_complaintSum 24 = .ok (.iaload, 1) := by decide +kernel
theorem dX4_complaintSum_25 : decode cX4_complaintSum 25 = .ok (.iadd, 1) := by decide +kernel
theorem dX4_complaintSum_26 : decode cX4_complaintSum 26 = .ok (.istore_n 1, 1) := by decide +kernel
theorem dX4_complaintSum_27 : decode cX4_complaintSum 27 = .ok (.iinc 2 1, 3) := by decide +kernel
theorem dX4_complaintSum_30 : decode cX4_complaintSum 30 = .ok (.goto (-26), 3) := by decide +kernel
theorem dX4_complaintSum_33 : decode cX4_complaintSum 33 = .ok (.iload_n 1, 1) := by decide +kernel
theorem dX4_complaintSum_34 : decode cX4_complaintSum 34 = .ok (.ireturn, 1) := by decide +kernel
theorem dX4_depthsAllowed_0 : decode cX4_depthsAllowed 0 = .ok (.iconst 0, 1) := by decide +kernel
theorem dX4_depthsAllowed_1 : decode cX4_depthsAllowed 1 = .ok (.istore_n 1, 1) := by decide +kernel
theorem dX4_depthsAllowed_2 : decode cX4_depthsAllowed 2 = .ok (.iload_n 1, 1) := by decide +kernel
theorem dX4_depthsAllowed_3 : decode cX4_depthsAllowed 3 = .ok (.aload_n 0, 1) := by decide +kernel
theorem dX4_depthsAllowed_4 : decode cX4_depthsAllowed 4 = .ok (.getfield 37, 3) := by decide +kernel
theorem dX4_depthsAllowed_7 : decode cX4_depthsAllowed 7 = .ok (.if_icmp .ge 38, 3) := by decide +kernel
theorem dX4_depthsAllowed_10 : decode cX4_depthsAllowed 10 = .ok (.iload_n 1, 1) := by decide +kernel
theorem dX4_depthsAllowed_11 : decode cX4_depthsAllowed 11 = .ok (.bipush 12, 2) := by decide +kernel
theorem dX4_depthsAllowed_13 : decode cX4_depthsAllowed 13 = .ok (.if_icmp .ge 32, 3) := by decide +kernel
theorem dX4_depthsAllowed_16 : decode cX4_depthsAllowed 16 = .ok (.aload_n 0, 1) := by decide +kernel
theorem dX4_depthsAllowed_17 : decode cX4_depthsAllowed 17 = .ok (.getfield 25, 3) := by decide +kernel
theorem dX4_depthsAllowed_20 : decode cX4_depthsAllowed 20 = .ok (.iload_n 1, 1) := by decide +kernel
theorem dX4_depthsAllowed_21 : decode cX4_depthsAllowed 21 = .ok (.iaload, 1) := by decide +kernel
theorem dX4_depthsAllowed_22 : decode cX4_depthsAllowed 22 = .ok (.ifCond .lt 15, 3) := by decide +kernel
theorem dX4_depthsAllowed_25 : decode cX4_depthsAllowed 25 = .ok (.aload_n 0, 1) := by decide +kernel
theorem dX4_depthsAllowed_26 : decode cX4_depthsAllowed 26 = .ok (.getfield 25, 3) := by decide +kernel
theorem dX4_depthsAllowed_29 : decode cX4_depthsAllowed 29 = .ok (.iload_n 1, 1) := by decide +kernel
theorem dX4_depthsAllowed_30 : decode cX4_depthsAllowed 30 = .ok (.iaload, 1) := by decide +kernel
theorem dX4_depthsAllowed_31 : decode cX4_depthsAllowed 31 = .ok (.sipush 200, 3) := by decide +kernel
theorem dX4_depthsAllowed_34 : decode cX4_depthsAllowed 34 = .ok (.if_icmp .le 5, 3) := by decide +kernel
theorem dX4_depthsAllowed_37 : decode cX4_depthsAllowed 37 = .ok (.iconst 0, 1) := by decide +kernel
theorem dX4_depthsAllowed_38 : decode cX4_depthsAllowed 38 = .ok (.ireturn, 1) := by decide +kernel
theorem dX4_depthsAllowed_39 : decode cX4_depthsAllowed 39 = .ok (.iinc 1 1, 3) := by decide +kernel
theorem dX4_depthsAllowed_42 : decode cX4_depthsAllowed 42 = .ok (.goto (-40), 3) := by decide +kernel
theorem dX4_depthsAllowed_45 : decode cX4_depthsAllowed 45 = .ok (.iconst 1, 1) := by decide +kernel
theorem dX4_depthsAllowed_46 : decode cX4_depthsAllowed 46 = .ok (.ireturn, 1) := by decide +kernel
theorem dX4_fall_0 : decode cX4_fall 0 = .ok (.iconst 0, 1) := by decide +kernel
theorem dX4_fall_1 : decode cX4_fall 1 = .ok (.istore_n 2, 1) := by decide +kernel
theorem dX4_fall_2 : decode cX4_fall 2 = .ok (.iload_n 2, 1) := by decide +kernel
theorem dX4_fall_3 : decode cX4_fall 3 = .ok (.aload_n 0, 1) := by decide +kernel
theorem dX4_fall_4 : decode cX4_fall 4 = .ok (.getfield 37, 3) := by decide +kernel
theorem dX4_fall_7 : decode cX4_fall 7 = .ok (.if_icmp .ge 35, 3) := by decide +kernel
theorem dX4_fall_10 : decode cX4_fall 10 = .ok (.iload_n 2, 1) := by decide +kernel
theorem dX4_fall_11 : decode cX4_fall 11 = .ok (.bipush 12, 2) := by decide +kernel
theorem dX4_fall_13 : decode cX4_fall 13 = .ok (.if_icmp .ge 29, 3) := by decide +kernel
theorem dX4_fall_16 : decode cX4_fall 16 = .ok (.aload_n 0, 1) := by decide +kernel
theorem dX4_fall_17 : decode cX4_fall 17 = .ok (.getfield 25, 3) := by decide +kernel
theorem dX4_fall_20 : decode cX4_fall 20 = .ok (.iload_n 2, 1) := by decide +kernel
theorem dX4_fall_21 : decode cX4_fall 21 = .ok (.aload_n 0, 1) := by decide +kernel
theorem dX4_fall_22 : decode cX4_fall 22 = .ok (.getfield 25, 3) := by decide +kernel
theorem dX4_fall_25 : decode cX4_fall 25 = .ok (.iload_n 2, 1) := by decide +kernel
theorem dX4_fall_26 : decode cX4_fall 26 = .ok (.iaload, 1) := by decide +kernel
theorem dX4_fall_27 : decode cX4_fall 27 = .ok (.iload_n 1, 1) := by decide +kernel
theorem dX4_fall_28 : decode cX4_fall 28 = .ok (.iadd, 1) := by decide +kernel
theorem dX4_fall_29 : decode cX4_fall 29 = .ok (.sipush 200, 3) := by decide +kernel
theorem dX4_fall_32 : decode cX4_fall 32 = .ok (.invokestatic 66, 3) := by decide +kernel
theorem dX4_fall_35 : decode cX4_fall 35 = .ok (.iastore, 1) := by decide +kernel
theorem dX4_fall_36 : decode cX4_fall 36 = .ok (.iinc 2 1, 3) := by decide +kernel
theorem dX4_fall_39 : decode cX4_fall 39 = .ok (.goto (-37), 3) := by decide +kernel
theorem dX4_fall_42 : decode cX4_fall 42 = .ok (.return_, 1) := by decide +kernel
theorem dX4_melt_0 : decode cX4_melt 0 = .ok (.iconst 0, 1) := by decide +kernel
theorem dX4_melt_1 : decode cX4_melt 1 = .ok (.istore_n 2, 1) := by decide +kernel
theorem dX4_melt_2 : decode cX4_melt 2 = .ok (.iload_n 2, 1) := by decide +kernel
theorem dX4_melt_3 : decode cX4_melt 3 = .ok (.aload_n 0, 1) := by decide +kernel
theorem dX4_melt_4 : decode cX4_melt 4 = .ok (.getfield 37, 3) := by decide +kernel
theorem dX4_melt_7 : decode cX4_melt 7 = .ok (.if_icmp .ge 43, 3) := by decide +kernel
theorem dX4_melt_10 : decode cX4_melt 10 = .ok (.iload_n 2, 1) := by decide +kernel
theorem dX4_melt_11 : decode cX4_melt 11 = .ok (.bipush 12, 2) := by decide +kernel
theorem dX4_melt_13 : decode cX4_melt 13 = .ok (.if_icmp .ge 37, 3) := by decide +kernel
theorem dX4_melt_16 : decode cX4_melt 16 = .ok (.aload_n 0, 1) := by decide +kernel
theorem dX4_melt_17 : decode cX4_melt 17 = .ok (.getfield 28, 3) := by decide +kernel
theorem dX4_melt_20 : decode cX4_melt 20 = .ok (.iload_n 2, 1) := by decide +kernel
theorem dX4_melt_21 : decode cX4_melt 21 = .ok (.iaload, 1) := by decide +kernel
theorem dX4_melt_22 : decode cX4_melt 22 = .ok (.iload_n 1, 1) := by decide +kernel
theorem dX4_melt_23 : decode cX4_melt 23 = .ok (.if_icmp .le 21, 3) := by decide +kernel
theorem dX4_melt_26 : decode cX4_melt 26 = .ok (.aload_n 0, 1) := by decide +kernel
theorem dX4_melt_27 : decode cX4_melt 27 = .ok (.getfield 25, 3) := by decide +kernel
theorem dX4_melt_30 : decode cX4_melt 30 = .ok (.iload_n 2, 1) := by decide +kernel
theorem dX4_melt_31 : decode cX4_melt 31 = .ok (.aload_n 0, 1) := by decide +kernel
theorem dX4_melt_32 : decode cX4_melt 32 = .ok (.getfield 25, 3) := by decide +kernel
theorem dX4_melt_35 : decode cX4_melt 35 = .ok (.iload_n 2, 1) := by decide +kernel
theorem dX4_melt_36 : decode cX4_melt 36 = .ok (.iaload, 1) := by decide +kernel
theorem dX4_melt_37 : decode cX4_melt 37 = .ok (.iconst 3, 1) := by decide +kernel
theorem dX4_melt_38 : decode cX4_melt 38 = .ok (.isub, 1) := by decide +kernel
theorem dX4_melt_39 : decode cX4_melt 39 = .ok (.iconst 0, 1) := by decide +kernel
theorem dX4_melt_40 : decode cX4_melt 40 = .ok (.invokestatic 71, 3) := by decide +kernel
theorem dX4_melt_43 : decode cX4_melt 43 = .ok (.iastore, 1) := by decide +kernel
theorem dX4_melt_44 : decode cX4_melt 44 = .ok (.iinc 2 1, 3) := by decide +kernel
theorem dX4_melt_47 : decode cX4_melt 47 = .ok (.goto (-45), 3) := by decide +kernel
theorem dX4_melt_50 : decode cX4_melt 50 = .ok (.return_, 1) := by decide +kernel
theorem dX4_drift_0 : decode cX4_drift 0 = .ok (.aload_n 0, 1) := by decide +kernel
theorem dX4_drift_1 : decode cX4_drift 1 = .ok (.getfield 37, 3) := by decide +kernel
theorem dX4_drift_4 : decode cX4_drift 4 = .ok (.iconst 2, 1) := by decide +kernel
theorem dX4_drift_5 : decode cX4_drift 5 = .ok (.if_icmp .lt 16, 3) := by decide +kernel
theorem dX4_drift_8 : decode cX4_drift 8 = .ok (.aload_n 0, 1) := by decide +kernel
theorem dX4_drift_9 : decode cX4_drift 9 = .ok (.aload_n 0, 1) := by decide +kernel
theorem dX4_drift_10 : decode cX4_drift 10 = .ok (.getfield 37, 3) := by decide +kernel
theorem dX4_drift_13 : decode cX4_drift 13 = .ok (.iconst 1, 1) := by decide +kernel
theorem dX4_drift_14 : decode cX4_drift 14 = .ok (.isub, 1) := by decide +kernel
theorem dX4_drift_15 : decode cX4_drift 15 = .ok (.invokevirtual 47, 3) := by decide +kernel
theorem dX4_drift_18 : decode cX4_drift 18 = .ok (.ifCond .ne 4, 3) := by decide +kernel
theorem dX4_drift_21 : decode cX4_drift 21 = .ok (.return_, 1) := by decide +kernel
theorem dX4_drift_22 : decode cX4_drift 22 = .ok (.iload_n 1, 1) := by decide +kernel
theorem dX4_drift_23 : decode cX4_drift 23 = .ok (.aload_n 0, 1) := by decide +kernel
theorem dX4_drift_24 : decode cX4_drift 24 = .ok (.getfield 25, 3) := by decide +kernel
theorem dX4_drift_27 : decode cX4_drift 27 = .ok (.aload_n 0, 1) := by decide +kernel
theorem dX4_drift_28 : decode cX4_drift 28 = .ok (.getfield 37, 3) := by decide +kernel
theorem dX4_drift_31 : decode cX4_drift 31 = .ok (.iconst 1, 1) := by decide +kernel
theorem dX4_drift_32 : decode cX4_drift 32 = .ok (.isub, 1) := by decide +kernel
theorem dX4_drift_33 : decode cX4_drift 33 = .ok (.iaload, 1) := by decide +kernel
theorem dX4_drift_34 : decode cX4_drift 34 = .ok (.iconst 4, 1) := by decide +kernel
theorem dX4_drift_35 : decode cX4_drift 35 = .ok (.idiv, 1) := by decide +kernel
theorem dX4_drift_36 : decode cX4_drift 36 = .ok (.invokestatic 66, 3) := by decide +kernel
theorem dX4_drift_39 : decode cX4_drift 39 = .ok (.istore_n 2, 1) := by decide +kernel
theorem dX4_drift_40 : decode cX4_drift 40 = .ok (.iconst 0, 1) := by decide +kernel
theorem dX4_drift_41 : decode cX4_drift 41 = .ok (.istore_n 3, 1) := by decide +kernel
theorem dX4_drift_42 : decode cX4_drift 42 = .ok (.iload_n 3, 1) := by decide +kernel
theorem dX4_drift_43 : decode cX4_drift 43 = .ok (.aload_n 0, 1) := by decide +kernel
theorem dX4_drift_44 : decode cX4_drift 44 = .ok (.getfield 37, 3) := by decide +kernel
theorem dX4_drift_47 : decode cX4_drift 47 = .ok (.if_icmp .ge 55, 3) := by decide +kernel
theorem dX4_drift_50 : decode cX4_drift 50 = .ok (.iload_n 3, 1) := by decide +kernel
theorem dX4_drift_51 : decode cX4_drift 51 = .ok (.bipush 12, 2) := by decide +kernel
theorem dX4_drift_53 : decode cX4_drift 53 = .ok (.if_icmp .ge 49, 3) := by decide +kernel
theorem dX4_drift_56 : decode cX4_drift 56 = .ok (.iload_n 1, 1) := by decide +kernel
theorem dX4_drift_57 : decode cX4_drift 57 = .ok (.aload_n 0, 1) := by decide +kernel
theorem dX4_drift_58 : decode cX4_drift 58 = .ok (.getfield 25, 3) := by decide +kernel
theorem dX4_drift_61 : decode cX4_drift 61 = .ok (.iload_n 3, 1) := by decide +kernel
theorem dX4_drift_62 : decode cX4_drift 62 = .ok (.iaload, 1) := by decide +kernel
theorem dX4_drift_63 : decode cX4_drift 63 = .ok (.iconst 4, 1) := by decide +kernel
theorem dX4_drift_64 : decode cX4_drift 64 = .ok (.idiv, 1) := by decide +kernel
theorem dX4_drift_65 : decode cX4_drift 65 = .ok (.invokestatic 66, 3) := by decide +kernel
theorem dX4_drift_68 : decode cX4_drift 68 = .ok (.istore 4, 2) := by decide +kernel
theorem dX4_drift_70 : decode cX4_drift 70 = .ok (.aload_n 0, 1) := by decide +kernel
theorem dX4_drift_71 : decode cX4_drift 71 = .ok (.getfield 25, 3) := by decide +kernel
theorem dX4_drift_74 : decode cX4_drift 74 = .ok (.iload_n 3, 1) := by decide +kernel
theorem dX4_drift_75 : decode cX4_drift 75 = .ok (.aload_n 0, 1) := by decide +kernel
theorem dX4_drift_76 : decode cX4_drift 76 = .ok (.getfield 25, 3) := by decide +kernel
theorem dX4_drift_79 : decode cX4_drift 79 = .ok (.iload_n 3, 1) := by decide +kernel
theorem dX4_drift_80 : decode cX4_drift 80 = .ok (.iaload, 1) := by decide +kernel
theorem dX4_drift_81 : decode cX4_drift 81 = .ok (.iload 4, 2) := by decide +kernel
theorem dX4_drift_83 : decode cX4_drift 83 = .ok (.isub, 1) := by decide +kernel
theorem dX4_drift_84 : decode cX4_drift 84 = .ok (.iload_n 2, 1) := by decide +kernel
theorem dX4_drift_85 : decode cX4_drift 85 = .ok (.iadd, 1) := by decide +kernel
theorem dX4_drift_86 : decode cX4_drift 86 = .ok (.sipush 200, 3) := by decide +kernel
theorem dX4_drift_89 : decode cX4_drift 89 = .ok (.invokestatic 66, 3) := by decide +kernel
theorem dX4_drift_92 : decode cX4_drift 92 = .ok (.iastore, 1) := by decide +kernel
theorem dX4_drift_93 : decode cX4_drift 93 = .ok (.iload 4, 2) := by decide +kernel
theorem dX4_drift_95 : decode cX4_drift 95 = .ok (.istore_n 2, 1) := by decide +kernel
theorem dX4_drift_96 : decode cX4_drift 96 = .ok (.iinc 3 1, 3) := by decide +kernel
theorem dX4_drift_99 : decode cX4_drift 99 = .ok (.goto (-57), 3) := by decide +kernel
theorem dX4_drift_102 : decode cX4_drift 102 = .ok (.return_, 1) := by decide +kernel
theorem dX4_complain_0 : decode cX4_complain 0 = .ok (.iconst 0, 1) := by decide +kernel
theorem dX4_complain_1 : decode cX4_complain 1 = .ok (.istore_n 1, 1) := by decide +kernel
theorem dX4_complain_2 : decode cX4_complain 2 = .ok (.iconst 0, 1) := by decide +kernel
theorem dX4_complain_3 : decode cX4_complain 3 = .ok (.istore_n 2, 1) := by decide +kernel
theorem dX4_complain_4 : decode cX4_complain 4 = .ok (.iload_n 2, 1) := by decide +kernel
theorem dX4_complain_5 : decode cX4_complain 5 = .ok (.aload_n 0, 1) := by decide +kernel
theorem dX4_complain_6 : decode cX4_complain 6 = .ok (.getfield 37, 3) := by decide +kernel
theorem dX4_complain_9 : decode cX4_complain 9 = .ok (.if_icmp .ge 36, 3) := by decide +kernel
theorem dX4_complain_12 : decode cX4_complain 12 = .ok (.iload_n 2, 1) := by decide +kernel
theorem dX4_complain_13 : decode cX4_complain 13 = .ok (.bipush 12, 2) := by decide +kernel
theorem dX4_complain_15 : decode cX4_complain 15 = .ok (.if_icmp .ge 30, 3) := by decide +kernel
theorem dX4_complain_18 : decode cX4_complain 18 = .ok (.aload_n 0, 1) := by decide +kernel
theorem dX4_complain_19 : decode cX4_complain 19 = .ok (.iload_n 2, 1) := by decide +kernel
theorem dX4_complain_20 : decode cX4_complain 20 = .ok (.invokevirtual 59, 3) := by decide +kernel
theorem dX4_complain_23 : decode cX4_complain 23 = .ok (.ifCond .le 16, 3) := by decide +kernel
theorem dX4_complain_26 : decode cX4_complain 26 = .ok (.aload_n 0, 1) := by decide +kernel
theorem dX4_complain_27 : decode cX4_complain 27 = .ok (.getfield 31, 3) := by decide +kernel
theorem dX4_complain_30 : decode cX4_complain 30 = .ok (.iload_n 2, 1) := by decide +kernel
theorem dX4_complain_31 : decode cX4_complain 31 = .ok (.dup2, 1) := by decide +kernel
theorem dX4_complain_32 : decode cX4_complain 32 = .ok (.iaload, 1) := by decide +kernel
theorem dX4_complain_33 : decode cX4_complain 33 = .ok (.iconst 1, 1) := by decide +kernel
theorem dX4_complain_34 : decode cX4_complain 34 = .ok (.iadd, 1) := by decide +kernel
theorem dX4_complain_35 : decode cX4_complain 35 = .ok (.iastore, 1) := by decide +kernel
theorem dX4_complain_36 : decode cX4_complain 36 = .ok (.iinc 1 1, 3) := by decide +kernel
theorem dX4_complain_39 : decode cX4_complain 39 = .ok (.iinc 2 1, 3) := by decide +kernel
theorem dX4_complain_42 : decode cX4_complain 42 = .ok (.goto (-38), 3) := by decide +kernel
theorem dX4_complain_45 : decode cX4_complain 45 = .ok (.iload_n 1, 1) := by decide +kernel
theorem dX4_complain_46 : decode cX4_complain 46 = .ok (.ireturn, 1) := by decide +kernel
theorem dX5_init_0 : decode cX5_init 0 = .ok (.aload_n 0, 1) := by decide +kernel
theorem dX5_init_1 : decode cX5_init 1 = .ok (.invokespecial 3, 3) := by decide +kernel
theorem dX5_init_4 : decode cX5_init 4 = .ok (.aload_n 0, 1) := by decide +kernel
theorem dX5_init_5 : decode cX5_init 5 = .ok (.aload_n 1, 1) := by decide +kernel
theorem dX5_init_6 : decode cX5_init 6 = .ok (.putfield 9, 3) := by decide +kernel
theorem dX5_init_9 : decode cX5_init 9 = .ok (.aload_n 0, 1) := by decide +kernel
theorem dX5_init_10 : decode cX5_init 10 = .ok (.new 15, 3) := by decide +kernel
theorem dX5_init_13 : decode cX5_init 13 = .ok (.dup, 1) := by decide +kernel
theorem dX5_init_14 : decode cX5_init 14 = .ok (.invokespecial 17, 3) := by decide +kernel
theorem dX5_init_17 : decode cX5_init 17 = .ok (.putfield 18, 3) := by decide +kernel
theorem dX5_init_20 : decode cX5_init 20 = .ok (.aload_n 0, 1) := by decide +kernel
theorem dX5_init_21 : decode cX5_init 21 = .ok (.new 22, 3) := by decide +kernel
theorem dX5_init_24 : decode cX5_init 24 = .ok (.dup, 1) := by decide +kernel
theorem dX5_init_25 : decode cX5_init 25 = .ok (.invokespecial 24, 3) := by decide +kernel
theorem dX5_init_28 : decode cX5_init 28 = .ok (.putfield 25, 3) := by decide +kernel
theorem dX5_init_31 : decode cX5_init 31 = .ok (.return_, 1) := by decide +kernel
theorem dX5_copyFrom_0 : decode cX5_copyFrom 0 = .ok (.aload_n 0, 1) := by decide +kernel
theorem dX5_copyFrom_1 : decode cX5_copyFrom 1 = .ok (.getfield 18, 3) := by decide +kernel
theorem dX5_copyFrom_4 : decode cX5_copyFrom 4 = .ok (.aload_n 1, 1) := by decide +kernel
theorem dX5_copyFrom_5 : decode cX5_copyFrom 5 = .ok (.getfield 18, 3) := by decide +kernel
theorem dX5_copyFrom_8 : decode cX5_copyFrom 8 = .ok (.invokevirtual 29, 3) := by decide +kernel
theorem dX5_copyFrom_11 : decode cX5_copyFrom 11 = .ok (.aload_n 0, 1) := by decide +kernel
theorem dX5_copyFrom_12 : decode cX5_copyFrom 12 = .ok (.getfield 25, 3) := by decide +kernel
theorem dX5_copyFrom_15 : decode cX5_copyFrom 15 = .ok (.aload_n 1, 1) := by decide +kernel
theorem dX5_copyFrom_16 : decode cX5_copyFrom 16 = .ok (.getfield 25, 3) := by decide +kernel
theorem dX5_copyFrom_19 : decode cX5_copyFrom 19 = .ok (.invokevirtual 33, 3) := by decide +kernel
theorem dX5_copyFrom_22 : decode cX5_copyFrom 22 = .ok (.aload_n 0, 1) := by decide +kernel
theorem dX5_copyFrom_23 : decode cX5_copyFrom 23 = .ok (.aload_n 1, 1) := by decide +kernel
theorem dX5_copyFrom_24 : decode cX5_copyFrom 24 = .ok (.getfield 36, 3) := by decide +kernel
theorem dX5_copyFrom_27 : decode cX5_copyFrom 27 = .ok (.putfield 36, 3) := by decide +kernel
theorem dX5_copyFrom_30 : decode cX5_copyFrom 30 = .ok (.aload_n 0, 1) := by decide +kernel
theorem dX5_copyFrom_31 : decode cX5_copyFrom 31 = .ok (.aload_n 1, 1) := by decide +kernel
theorem dX5_copyFrom_32 : decode cX5_copyFrom 32 = .ok (.getfield 40, 3) := by decide +kernel
theorem dX5_copyFrom_35 : decode cX5_copyFrom 35 = .ok (.putfield 40, 3) := by decide +kernel
theorem dX5_copyFrom_38 : decode cX5_copyFrom 38 = .ok (.aload_n 0, 1) := by decide +kernel
theorem dX5_copyFrom_39 : decode cX5_copyFrom 39 = .ok (.aload_n 1, 1) := by decide +kernel
theorem dX5_copyFrom_40 : decode cX5_copyFrom 40 = .ok (.getfield 43, 3) := by decide +kernel
theorem dX5_copyFrom_43 : decode cX5_copyFrom 43 = .ok (.putfield 43, 3) := by decide +kernel
theorem dX5_copyFrom_46 : decode cX5_copyFrom 46 = .ok (.aload_n 0, 1) := by decide +kernel
theorem dX5_copyFrom_47 : decode cX5_copyFrom 47 = .ok (.aload_n 1, 1) := by decide +kernel
theorem dX5_copyFrom_48 : decode cX5_copyFrom 48 = .ok (.getfield 46, 3) := by decide +kernel
theorem dX5_copyFrom_51 : decode cX5_copyFrom 51 = .ok (.putfield 46, 3) := by decide +kernel
theorem dX5_copyFrom_54 : decode cX5_copyFrom 54 = .ok (.aload_n 0, 1) := by decide +kernel
theorem dX5_copyFrom_55 : decode cX5_copyFrom 55 = .ok (.aload_n 1, 1) := by decide +kernel
theorem dX5_copyFrom_56 : decode cX5_copyFrom 56 = .ok (.getfield 49, 3) := by decide +kernel
theorem dX5_copyFrom_59 : decode cX5_copyFrom 59 = .ok (.putfield 49, 3) := by decide +kernel
theorem dX5_copyFrom_62 : decode cX5_copyFrom 62 = .ok (.aload_n 0, 1) := by decide +kernel
theorem dX5_copyFrom_63 : decode cX5_copyFrom 63 = .ok (.aload_n 1, 1) := by decide +kernel
theorem dX5_copyFrom_64 : decode cX5_copyFrom 64 = .ok (.getfield 52, 3) := by decide +kernel
theorem dX5_copyFrom_67 : decode cX5_copyFrom 67 = .ok (.putfield 52, 3) := by decide +kernel
theorem dX5_copyFrom_70 : decode cX5_copyFrom 70 = .ok (.aload_n 0, 1) := by decide +kernel
theorem dX5_copyFrom_71 : decode cX5_copyFrom 71 = .ok (.aload_n 1, 1) := by decide +kernel
theorem dX5_copyFrom_72 : decode cX5_copyFrom 72 = .ok (.getfield 55, 3) := by decide +kernel
theorem dX5_copyFrom_75 : decode cX5_copyFrom 75 = .ok (.putfield 55, 3) := by decide +kernel
theorem dX5_copyFrom_78 : decode cX5_copyFrom 78 = .ok (.aload_n 0, 1) := by decide +kernel
theorem dX5_copyFrom_79 : decode cX5_copyFrom 79 = .ok (.aload_n 1, 1) := by decide +kernel
theorem dX5_copyFrom_80 : decode cX5_copyFrom 80 = .ok (.getfield 58, 3) := by decide +kernel
theorem dX5_copyFrom_83 : decode cX5_copyFrom 83 = .ok (.putfield 58, 3) := by decide +kernel
theorem dX5_copyFrom_86 : decode cX5_copyFrom 86 = .ok (.return_, 1) := by decide +kernel
theorem dX5_putStreet_0 : decode cX5_putStreet 0 = .ok (.iload_n 1, 1) := by decide +kernel
theorem dX5_putStreet_1 : decode cX5_putStreet 1 = .ok (.invokestatic 61, 3) := by decide +kernel
theorem dX5_putStreet_4 : decode cX5_putStreet 4 = .ok (.ifCond .eq 10, 3) := by decide +kernel
theorem dX5_putStreet_7 : decode cX5_putStreet 7 = .ok (.iload_n 2, 1) := by decide +kernel
theorem dX5_putStreet_8 : decode cX5_putStreet 8 = .ok (.invokestatic 61, 3) := by decide +kernel
theorem dX5_putStreet_11 : decode cX5_putStreet 11 = .ok (.ifCond .ne 5, 3) := by decide +kernel
theorem dX5_putStreet_14 : decode cX5_putStreet 14 = .ok (.iconst (-1), 1) := by decide +kernel
theorem dX5_putStreet_15 : decode cX5_putStreet 15 = .ok (.ireturn, 1) := by decide +kernel
theorem dX5_putStreet_16 : decode cX5_putStreet 16 = .ok (.iload_n 1, 1) := by decide +kernel
theorem dX5_putStreet_17 : decode cX5_putStreet 17 = .ok (.iload_n 2, 1) := by decide +kernel
theorem dX5_putStreet_18 : decode cX5_putStreet 18 = .ok (.if_icmp .eq 28, 3) := by decide +kernel
theorem dX5_putStreet_21 : decode cX5_putStreet 21 = .ok (.iload_n 3, 1) := by decide +kernel
theorem dX5_putStreet_22 : decode cX5_putStreet 22 = .ok (.bipush 97, 2) := by decide +kernel
theorem dX5_putStreet_24 : decode cX5_putStreet 24 = .ok (.if_icmp .lt 22, 3) := by decide +kernel
theorem dX5_putStreet_27 : decode cX5_putStreet 27 = .ok (.iload_n 3, 1) := by decide +kernel
theorem dX5_putStreet_28 : decode cX5_putStreet 28 = .ok (.bipush 99, 2) := by decide +kernel
theorem dX5_putStreet_30 : decode cX5_putStreet 30 = .ok (.if_icmp .gt 16, 3) := by decide +kernel
theorem dX5_putStreet_33 : decode cX5_putStreet 33 = .ok (.iload 4, 2) := by decide +kernel
theorem dX5_putStreet_35 : decode cX5_putStreet 35 = .ok (.iconst 1, 1) := by decide +kernel
theorem dX5_putStreet_36 : decode cX5_putStreet 36 = .ok (.if_icmp .lt 10, 3) := by decide +kernel
theorem dX5_putStreet_39 : decode cX5_putStreet 39 = .ok (.iload 4, 2) := by decide +kernel
theorem dX5_putStreet_41 : decode cX5_putStreet 41 = .ok (.bipush 9, 2) := by decide +kernel
theorem dX5_putStreet_43 : decode cX5_putStreet 43 = .ok (.if_icmp .le 6, 3) := by decide +kernel
theorem dX5_putStreet_46 : decode cX5_putStreet 46 = .ok (.bipush (-2), 2) := by decide +kernel
theorem dX5_putStreet_48 : decode cX5_putStreet 48 = .ok (.ireturn, 1) := by decide +kernel
theorem dX5_putStreet_49 : decode cX5_putStreet 49 = .ok (.iload_n 1, 1) := by decide +kernel
theorem dX5_putStreet_50 : decode cX5_putStreet 50 = .ok (.iload_n 2, 1) := by decide +kernel
theorem dX5_putStreet_51 : decode cX5_putStreet 51 = .ok (.invokestatic 65, 3) := by decide +kernel
theorem dX5_putStreet_54 : decode cX5_putStreet 54 = .ok (.istore 5, 2) := by decide +kernel
theorem dX5_putStreet_56 : decode cX5_putStreet 56 = .ok (.iload_n 1, 1) := by decide +kernel
theorem dX5_putStreet_57 : decode cX5_putStreet 57 = .ok (.iload_n 2, 1) := by decide +kernel
theorem dX5_putStreet_58 : decode cX5_putStreet 58 = .ok (.invokestatic 71, 3) := by decide +kernel
theorem dX5_putStreet_61 : decode cX5_putStreet 61 = .ok (.istore 6, 2) := by decide +kernel
theorem dX5_putStreet_63 : decode cX5_putStreet 63 = .ok (.aload_n 0, 1) := by decide +kernel
theorem dX5_putStreet_64 : decode cX5_putStreet 64 = .ok (.getfield 18, 3) := by decide +kernel
theorem dX5_putStreet_67 : decode cX5_putStreet 67 = .ok (.iload 5, 2) := by decide +kernel
theorem dX5_putStreet_69 : decode cX5_putStreet 69 = .ok (.iload 6, 2) := by decide +kernel
theorem dX5_putStreet_71 : decode cX5_putStreet 71 = .ok (.invokevirtual 74, 3) := by decide +kernel
theorem dX5_putStreet_74 : decode cX5_putStreet 74 = .ok (.ifCond .eq 6, 3) := by decide +kernel
theorem dX5_putStreet_77 : decode cX5_putStreet 77 = .ok (.bipush (-4), 2) := by decide +kernel
theorem dX5_putStreet_79 : decode cX5_putStreet 79 = .ok (.ireturn, 1) := by decide +kernel
theorem dX5_putStreet_80 : decode cX5_putStreet 80 = .ok (.aload_n 0, 1) := by decide +kernel
theorem dX5_putStreet_81 : decode cX5_putStreet 81 = .ok (.getfield 18, 3) := by decide +kernel
theorem dX5_putStreet_84 : decode cX5_putStreet 84 = .ok (.iload 5, 2) := by decide +kernel
theorem dX5_putStreet_86 : decode cX5_putStreet 86 = .ok (.iload 6, 2) := by decide +kernel
theorem dX5_putStreet_88 : decode cX5_putStreet 88 = .ok (.iload_n 3, 1) := by decide +kernel
theorem dX5_putStreet_89 : decode cX5_putStreet 89 = .ok (.iload 4, 2) := by decide +kernel
theorem dX5_putStreet_91 : decode cX5_putStreet 91 = .ok (.invokevirtual 78, 3) := by decide +kernel
theorem dX5_putStreet_94 : decode cX5_putStreet 94 = .ok (.ireturn, 1) := by decide +kernel
theorem dX5_putPlough_0 : decode cX5_putPlough 0 = .ok (.iload_n 1, 1) := by decide +kernel
theorem dX5_putPlough_1 : decode cX5_putPlough 1 = .ok (.invokestatic 61, 3) := by decide +kernel
theorem dX5_putPlough_4 : decode cX5_putPlough 4 = .ok (.ifCond .eq 14, 3) := by decide +kernel
theorem dX5_putPlough_7 : decode cX5_putPlough 7 = .ok (.aload_n 0, 1) := by decide +kernel
theorem dX5_putPlough_8 : decode cX5_putPlough 8 = .ok (.getfield 25, 3) := by decide +kernel
theorem dX5_putPlough_11 : decode cX5_putPlough 11 = .ok (.iload_n 1, 1) := by decide +kernel
theorem dX5_putPlough_12 : decode cX5_putPlough 12 = .ok (.invokevirtual 82, 3) := by decide +kernel
theorem dX5_putPlough_15 : decode cX5_putPlough 15 = .ok (.goto 4, 3) := by decide +kernel
theorem dX5_putPlough_18 : decode cX5_putPlough 18 = .ok (.iconst (-1), 1) := by decide +kernel
theorem dX5_putPlough_19 : decode cX5_putPlough 19 = .ok (.ireturn, 1) := by decide +kernel
theorem dX5_appendOrder_0 : decode cX5_appendOrder 0 = .ok (.aload_n 0, 1) := by decide +kernel
theorem dX5_appendOrder_1 : decode cX5_appendOrder 1 = .ok (.getfield 18, 3) := by decide +kernel
theorem dX5_appendOrder_4 : decode cX5_appendOrder 4 = .ok (.iload_n 2, 1) := by decide +kernel
theorem dX5_appendOrder_5 : decode cX5_appendOrder 5 = .ok (.invokevirtual 85, 3) := by decide +kernel
theorem dX5_appendOrder_8 : decode cX5_appendOrder 8 = .ok (.ifCond .eq 15, 3) := by decide +kernel
theorem dX5_appendOrder_11 : decode cX5_appendOrder 11 = .ok (.aload_n 0, 1) := by decide +kernel
theorem dX5_appendOrder_12 : decode cX5_appendOrder 12 = .ok (.getfield 25, 3) := by decide +kernel
theorem dX5_appendOrder_15 : decode cX5_appendOrder 15 = .ok (.iload_n 1, 1) := by decide +kernel
theorem dX5_appendOrder_16 : decode cX5_appendOrder 16 = .ok (.iload_n 2, 1) := by decide +kernel
theorem dX5_appendOrder_17 : decode cX5_appendOrder 17 = .ok (.invokevirtual 88, 3) := by decide +kernel
theorem dX5_appendOrder_20 : decode cX5_appendOrder 20 = .ok (.goto 4, 3) := by decide +kernel
theorem dX5_appendOrder_23 : decode cX5_appendOrder 23 = .ok (.iconst (-1), 1) := by decide +kernel
theorem dX5_appendOrder_24 : decode cX5_appendOrder 24 = .ok (.ireturn, 1) := by decide +kernel
theorem dX5_removeOrder_0 : decode cX5_removeOrder 0 = .ok (.aload_n 0, 1) := by decide +kernel
theorem dX5_removeOrder_1 : decode cX5_removeOrder 1 = .ok (.getfield 25, 3) := by decide +kernel
theorem dX5_removeOrder_4 : decode cX5_removeOrder 4 = .ok (.iload_n 1, 1) := by decide +kernel
theorem dX5_removeOrder_5 : decode cX5_removeOrder 5 = .ok (.invokevirtual 91, 3) := by decide +kernel
theorem dX5_removeOrder_8 : decode cX5_removeOrder 8 = .ok (.ireturn, 1) := by decide +kernel
theorem dX5_spreadSalt_0 : decode cX5_spreadSalt 0 = .ok (.aload_n 0, 1) := by decide +kernel
theorem dX5_spreadSalt_1 : decode cX5_spreadSalt 1 = .ok (.getfield 18, 3) := by decide +kernel
theorem dX5_spreadSalt_4 : decode cX5_spreadSalt 4 = .ok (.iload_n 1, 1) := by decide +kernel
theorem dX5_spreadSalt_5 : decode cX5_spreadSalt 5 = .ok (.invokevirtual 85, 3) := by decide +kernel
theorem dX5_spreadSalt_8 : decode cX5_spreadSalt 8 = .ok (.ifCond .ne 5, 3) := by decide +kernel
theorem dX5_spreadSalt_11 : decode cX5_spreadSalt 11 = .ok (.iconst (-1), 1) := by decide +kernel
theorem dX5_spreadSalt_12 : decode cX5_spreadSalt 12 = .ok (.ireturn, 1) := by decide +kernel
theorem dX5_spreadSalt_13 : decode cX5_spreadSalt 13 = .ok (.aload_n 0, 1) := by decide +kernel
theorem dX5_spreadSalt_14 : decode cX5_spreadSalt 14 = .ok (.getfield 18, 3) := by decide +kernel
theorem dX5_spreadSalt_17 : decode cX5_spreadSalt 17 = .ok (.iload_n 1, 1) := by decide +kernel
theorem dX5_spreadSalt_18 : decode cX5_spreadSalt 18 = .ok (.aload_n 0, 1) := by decide +kernel
theorem dX5_spreadSalt_19 : decode cX5_spreadSalt 19 = .ok (.getfield 36, 3) := by decide +kernel
theorem dX5_spreadSalt_22 : decode cX5_spreadSalt 22 = .ok (.invokevirtual 94, 3) := by decide +kernel
theorem dX5_spreadSalt_25 : decode cX5_spreadSalt 25 = .ok (.ifCond .le 6, 3) := by decide +kernel
theorem dX5_spreadSalt_28 : decode cX5_spreadSalt 28 = .ok (.bipush (-3), 2) := by decide +kernel
theorem dX5_spreadSalt_30 : decode cX5_spreadSalt 30 = .ok (.ireturn, 1) := by decide +kernel
theorem dX5_spreadSalt_31 : decode cX5_spreadSalt 31 = .ok (.aload_n 0, 1) := by decide +kernel
theorem dX5_spreadSalt_32 : decode cX5_spreadSalt 32 = .ok (.getfield 40, 3) := by decide +kernel
theorem dX5_spreadSalt_35 : decode cX5_spreadSalt 35 = .ok (.aload_n 0, 1) := by decide +kernel
theorem dX5_spreadSalt_36 : decode cX5_spreadSalt 36 = .ok (.getfield 18, 3) := by decide +kernel
theorem dX5_spreadSalt_39 : decode cX5_spreadSalt 39 = .ok (.getfield 97, 3) := by decide +kernel
theorem dX5_spreadSalt_42 : decode cX5_spreadSalt 42 = .ok (.iload_n 1, 1) := by decide +kernel
theorem dX5_spreadSalt_43 : decode cX5_spreadSalt 43 = .ok (.iaload, 1) := by decide +kernel
theorem dX5_spreadSalt_44 : decode cX5_spreadSalt 44 = .ok (.if_icmp .ge 6, 3) := by decide +kernel
theorem dX5_spreadSalt_47 : decode cX5_spreadSalt 47 = .ok (.bipush (-4), 2) := by decide +kernel
theorem dX5_spreadSalt_49 : decode cX5_spreadSalt 49 = .ok (.ireturn, 1) := by decide +kernel
theorem dX5_spreadSalt_50 : decode cX5_spreadSalt 50 = .ok (.aload_n 0, 1) := by decide +kernel
theorem dX5_spreadSalt_51 : decode cX5_spreadSalt 51 = .ok (.dup, 1) := by decide +kernel
theorem dX5_spreadSalt_52 : decode cX5_spreadSalt 52 = .ok (.getfield 40, 3) := by decide +kernel
theorem dX5_spreadSalt_55 : decode cX5_spreadSalt 55 = .ok (.aload_n 0, 1) := by decide +kernel
theorem dX5_spreadSalt_56 : decode cX5_spreadSalt 56 = .ok (.getfield 18, 3) := by decide +kernel
theorem dX5_spreadSalt_59 : decode cX5_spreadSalt 59 = .ok (.getfield 97, 3) := by decide +kernel
theorem dX5_spreadSalt_62 : decode cX5_spreadSalt 62 = .ok (.iload_n 1, 1) := by decide +kernel
theorem dX5_spreadSalt_63 : decode cX5_spreadSalt 63 = .ok (.iaload, 1) := by decide +kernel
theorem dX5_spreadSalt_64 : decode cX5_spreadSalt 64 = .ok (.isub, 1) := by decide +kernel
theorem dX5_spreadSalt_65 : decode cX5_spreadSalt 65 = .ok (.putfield 40, 3) := by decide +kernel
theorem dX5_spreadSalt_68 : decode cX5_spreadSalt 68 = .ok (.aload_n 0, 1) := by decide +kernel
theorem dX5_spreadSalt_69 : decode cX5_spreadSalt 69 = .ok (.getfield 18, 3) := by decide +kernel
theorem dX5_spreadSalt_72 : decode cX5_spreadSalt 72 = .ok (.getfield 101, 3) := by decide +kernel
theorem dX5_spreadSalt_75 : decode cX5_spreadSalt 75 = .ok (.iload_n 1, 1) := by decide +kernel
theorem dX5_spreadSalt_76 : decode cX5_spreadSalt 76 = .ok (.aload_n 0, 1) := by decide +kernel
theorem dX5_spreadSalt_77 : decode cX5_spreadSalt 77 = .ok (.getfield 36, 3) := by decide +kernel
theorem dX5_spreadSalt_80 : decode cX5_spreadSalt 80 = .ok (.sipush 240, 3) := by decide +kernel
theorem dX5_spreadSalt_83 : decode cX5_spreadSalt 83 = .ok (.iadd, 1) := by decide +kernel
theorem dX5_spreadSalt_84 : decode cX5_spreadSalt 84 = .ok (.iastore, 1) := by decide +kernel
theorem dX5_spreadSalt_85 : decode cX5_spreadSalt 85 = .ok (.aload_n 0, 1) := by decide +kernel
theorem dX5_spreadSalt_86 : decode cX5_spreadSalt 86 = .ok (.getfield 40, 3) := by decide +kernel
theorem dX5_spreadSalt_89 : decode cX5_spreadSalt 89 = .ok (.ireturn, 1) := by decide +kernel
theorem dX5_fillStore_0 : decode cX5_fillStore 0 = .ok (.iload_n 1, 1) := by decide +kernel
theorem dX5_fillStore_1 : decode cX5_fillStore 1 = .ok (.iconst 1, 1) := by decide +kernel
theorem dX5_fillStore_2 : decode cX5_fillStore 2 = .ok (.if_icmp .lt 10, 3) := by decide +kernel
theorem dX5_fillStore_5 : decode cX5_fillStore 5 = .ok (.iload_n 1, 1) := by decide +kernel
theorem dX5_fillStore_6 : decode cX5_fillStore 6 = .ok (.sipush 200, 3) := by decide +kernel
theorem dX5_fillStore_9 : decode cX5_fillStore 9 = .ok (.if_icmp .le 6, 3) := by decide +kernel
theorem dX5_fillStore_12 : decode cX5_fillStore 12 = .ok (.bipush (-2), 2) := by decide +kernel
theorem dX5_fillStore_14 : decode cX5_fillStore 14 = .ok (.ireturn, 1) := by decide +kernel
theorem dX5_fillStore_15 : decode cX5_fillStore 15 = .ok (.aload_n 0, 1) := by decide +kernel
theorem dX5_fillStore_16 : decode cX5_fillStore 16 = .ok (.getfield 40, 3) := by decide +kernel
theorem dX5_fillStore_19 : decode cX5_fillStore 19 = .ok (.iload_n 1, 1) := by decide +kernel
theorem dX5_fillStore_20 : decode cX5_fillStore 20 = .ok (.iadd, 1) := by decide +kernel
theorem dX5_fillStore_21 : decode cX5_fillStore 21 = .ok (.sipush 500, 3) := by decide +kernel
theorem dX5_fillStore_24 : decode cX5_fillStore 24 = .ok (.if_icmp .le 6, 3) := by decide +kernel
theorem dX5_fillStore_27 : decode cX5_fillStore 27 = .ok (.bipush (-3), 2) := by decide +kernel
theorem dX5_fillStore_29 : decode cX5_fillStore 29 = .ok (.ireturn, 1) := by decide +kernel
theorem dX5_fillStore_30 : decode cX5_fillStore 30 = .ok (.aload_n 0, 1) := by decide +kernel
theorem dX5_fillStore_31 : decode cX5_fillStore 31 = .ok (.dup, 1) := by decide +kernel
theorem dX5_fillStore_32 : decode cX5_fillStore 32 = .ok (.getfield 40, 3) := by decide +kernel
theorem dX5_fillStore_35 : decode cX5_fillStore 35 = .ok (.iload_n 1, 1) := by decide +kernel
theorem dX5_fillStore_36 : decode cX5_fillStore 36 = .ok (.iadd, 1) := by decide +kernel
theorem dX5_fillStore_37 : decode cX5_fillStore 37 = .ok (.putfield 40, 3) := by decide +kernel
theorem dX5_fillStore_40 : decode cX5_fillStore 40 = .ok (.aload_n 0, 1) := by decide +kernel
theorem dX5_fillStore_41 : decode cX5_fillStore 41 = .ok (.getfield 40, 3) := by decide +kernel
theorem dX5_fillStore_44 : decode cX5_fillStore 44 = .ok (.ireturn, 1) := by decide +kernel
theorem dX5_changeRate_0 : decode cX5_changeRate 0 = .ok (.iload_n 1, 1) := by decide +kernel
theorem dX5_changeRate_1 : decode cX5_changeRate 1 = .ok (.ifCond .lt 9, 3) := by decide +kernel
theorem dX5_changeRate_4 : decode cX5_changeRate 4 = .ok (.iload_n 1, 1) := by decide +kernel
