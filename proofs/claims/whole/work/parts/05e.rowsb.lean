theorem dX6_distancesAgree_38 : decode cX6_distancesAgree 38 = .ok (.istore_n 2, 1) := by decide +kernel
theorem dX6_distancesAgree_39 : decode cX6_distancesAgree 39 = .ok (.iload_n 2, 1) := by decide +kernel
theorem dX6_distancesAgree_40 : decode cX6_distancesAgree 40 = .ok (.bipush 8, 2) := by decide +kernel
theorem dX6_distancesAgree_42 : decode cX6_distancesAgree 42 = .ok (.if_icmp .ge 31, 3) := by decide +kernel
theorem dX6_distancesAgree_45 : decode cX6_distancesAgree 45 = .ok (.aload_n 0, 1) := by decide +kernel
theorem dX6_distancesAgree_46 : decode cX6_distancesAgree 46 = .ok (.getfield 10, 3) := by decide +kernel
theorem dX6_distancesAgree_49 : decode cX6_distancesAgree 49 = .ok (.iload_n 2, 1) := by decide +kernel
theorem dX6_distancesAgree_50 : decode cX6_distancesAgree 50 = .ok (.invokevirtual 200, 3) := by decide +kernel
theorem dX6_distancesAgree_53 : decode cX6_distancesAgree 53 = .ok (.aload_n 0, 1) := by decide +kernel
theorem dX6_distancesAgree_54 : decode cX6_distancesAgree 54 = .ok (.getfield 10, 3) := by decide +kernel
theorem dX6_distancesAgree_57 : decode cX6_distancesAgree 57 = .ok (.iload_n 1, 1) := by decide +kernel
theorem dX6_distancesAgree_58 : decode cX6_distancesAgree 58 = .ok (.iload_n 2, 1) := by decide +kernel
theorem dX6_distancesAgree_59 : decode cX6_distancesAgree 59 = .ok (.invokevirtual 210, 3) := by decide +kernel
theorem dX6_distancesAgree_62 : decode cX6_distancesAgree 62 = .ok (.if_icmp .eq 5, 3) := by decide +kernel
theorem dX6_distancesAgree_65 : decode cX6_distancesAgree 65 = .ok (.iconst 0, 1) := by decide +kernel
theorem dX6_distancesAgree_66 : decode cX6_distancesAgree 66 = .ok (.ireturn, 1) := by decide +kernel
theorem dX6_distancesAgree_67 : decode cX6_distancesAgree 67 = .ok (.iinc 2 1, 3) := by decide +kernel
theorem dX6_distancesAgree_70 : decode cX6_distancesAgree 70 = .ok (.goto (-31), 3) := by decide +kernel
theorem dX6_distancesAgree_73 : decode cX6_distancesAgree 73 = .ok (.iinc 1 1, 3) := by decide +kernel
theorem dX6_distancesAgree_76 : decode cX6_distancesAgree 76 = .ok (.goto (-60), 3) := by decide +kernel
theorem dX6_distancesAgree_79 : decode cX6_distancesAgree 79 = .ok (.iconst 1, 1) := by decide +kernel
theorem dX6_distancesAgree_80 : decode cX6_distancesAgree 80 = .ok (.ireturn, 1) := by decide +kernel
theorem dX6_renderStreet_0 : decode cX6_renderStreet 0 = .ok (.aload_n 0, 1) := by decide +kernel
theorem dX6_renderStreet_1 : decode cX6_renderStreet 1 = .ok (.getfield 21, 3) := by decide +kernel
theorem dX6_renderStreet_4 : decode cX6_renderStreet 4 = .ok (.getfield 149, 3) := by decide +kernel
theorem dX6_renderStreet_7 : decode cX6_renderStreet 7 = .ok (.astore_n 2, 1) := by decide +kernel
theorem dX6_renderStreet_8 : decode cX6_renderStreet 8 = .ok (.aload_n 2, 1) := by decide +kernel
theorem dX6_renderStreet_9 : decode cX6_renderStreet 9 = .ok (.iload_n 1, 1) := by decide +kernel
theorem dX6_renderStreet_10 : decode cX6_renderStreet 10 = .ok (.invokevirtual 158, 3) := by decide +kernel
theorem dX6_renderStreet_13 : decode cX6_renderStreet 13 = .ok (.ifCond .ne 13, 3) := by decide +kernel
theorem dX6_renderStreet_16 : decode cX6_renderStreet 16 = .ok (.new 71, 3) := by decide +kernel
theorem dX6_renderStreet_19 : decode cX6_renderStreet 19 = .ok (.dup, 1) := by decide +kernel
theorem dX6_renderStreet_20 : decode cX6_renderStreet 20 = .ok (.ldc 118, 2) := by decide +kernel
theorem dX6_renderStreet_22 : decode cX6_renderStreet 22 = .ok (.invokespecial 75, 3) := by decide +kernel
theorem dX6_renderStreet_25 : decode cX6_renderStreet 25 = .ok (.athrow, 1) := by decide +kernel
theorem dX6_renderStreet_26 : decode cX6_renderStreet 26 = .ok (.aload_n 0, 1) := by decide +kernel
theorem dX6_renderStreet_27 : decode cX6_renderStreet 27 = .ok (.getfield 48, 3) := by decide +kernel
theorem dX6_renderStreet_30 : decode cX6_renderStreet 30 = .ok (.iconst 0, 1) := by decide +kernel
theorem dX6_renderStreet_31 : decode cX6_renderStreet 31 = .ok (.invokevirtual 305, 3) := by decide +kernel
theorem dX6_renderStreet_34 : decode cX6_renderStreet 34 = .ok (.aload_n 0, 1) := by decide +kernel
theorem dX6_renderStreet_35 : decode cX6_renderStreet 35 = .ok (.getfield 48, 3) := by decide +kernel
theorem dX6_renderStreet_38 : decode cX6_renderStreet 38 = .ok (.iload_n 1, 1) := by decide +kernel
theorem dX6_renderStreet_39 : decode cX6_renderStreet 39 = .ok (.invokevirtual 309, 3) := by decide +kernel
theorem dX6_renderStreet_42 : decode cX6_renderStreet 42 = .ok (.pop, 1) := by decide +kernel
theorem dX6_renderStreet_43 : decode cX6_renderStreet 43 = .ok (.aload_n 0, 1) := by decide +kernel
theorem dX6_renderStreet_44 : decode cX6_renderStreet 44 = .ok (.getfield 48, 3) := by decide +kernel
theorem dX6_renderStreet_47 : decode cX6_renderStreet 47 = .ok (.bipush 58, 2) := by decide +kernel
theorem dX6_renderStreet_49 : decode cX6_renderStreet 49 = .ok (.invokevirtual 313, 3) := by decide +kernel
theorem dX6_renderStreet_52 : decode cX6_renderStreet 52 = .ok (.pop, 1) := by decide +kernel
theorem dX6_renderStreet_53 : decode cX6_renderStreet 53 = .ok (.aload_n 0, 1) := by decide +kernel
theorem dX6_renderStreet_54 : decode cX6_renderStreet 54 = .ok (.getfield 48, 3) := by decide +kernel
theorem dX6_renderStreet_57 : decode cX6_renderStreet 57 = .ok (.aload_n 2, 1) := by decide +kernel
theorem dX6_renderStreet_58 : decode cX6_renderStreet 58 = .ok (.getfield 162, 3) := by decide +kernel
theorem dX6_renderStreet_61 : decode cX6_renderStreet 61 = .ok (.iload_n 1, 1) := by decide +kernel
theorem dX6_renderStreet_62 : decode cX6_renderStreet 62 = .ok (.iaload, 1) := by decide +kernel
theorem dX6_renderStreet_63 : decode cX6_renderStreet 63 = .ok (.invokevirtual 309, 3) := by decide +kernel
theorem dX6_renderStreet_66 : decode cX6_renderStreet 66 = .ok (.pop, 1) := by decide +kernel
theorem dX6_renderStreet_67 : decode cX6_renderStreet 67 = .ok (.aload_n 0, 1) := by decide +kernel
theorem dX6_renderStreet_68 : decode cX6_renderStreet 68 = .ok (.getfield 48, 3) := by decide +kernel
theorem dX6_renderStreet_71 : decode cX6_renderStreet 71 = .ok (.bipush 45, 2) := by decide +kernel
theorem dX6_renderStreet_73 : decode cX6_renderStreet 73 = .ok (.invokevirtual 313, 3) := by decide +kernel
theorem dX6_renderStreet_76 : decode cX6_renderStreet 76 = .ok (.pop, 1) := by decide +kernel
theorem dX6_renderStreet_77 : decode cX6_renderStreet 77 = .ok (.aload_n 0, 1) := by decide +kernel
theorem dX6_renderStreet_78 : decode cX6_renderStreet 78 = .ok (.getfield 48, 3) := by decide +kernel
theorem dX6_renderStreet_81 : decode cX6_renderStreet 81 = .ok (.aload_n 2, 1) := by decide +kernel
theorem dX6_renderStreet_82 : decode cX6_renderStreet 82 = .ok (.getfield 166, 3) := by decide +kernel
theorem dX6_renderStreet_85 : decode cX6_renderStreet 85 = .ok (.iload_n 1, 1) := by decide +kernel
theorem dX6_renderStreet_86 : decode cX6_renderStreet 86 = .ok (.iaload, 1) := by decide +kernel
theorem dX6_renderStreet_87 : decode cX6_renderStreet 87 = .ok (.invokevirtual 309, 3) := by decide +kernel
theorem dX6_renderStreet_90 : decode cX6_renderStreet 90 = .ok (.pop, 1) := by decide +kernel
theorem dX6_renderStreet_91 : decode cX6_renderStreet 91 = .ok (.aload_n 0, 1) := by decide +kernel
theorem dX6_renderStreet_92 : decode cX6_renderStreet 92 = .ok (.getfield 48, 3) := by decide +kernel
theorem dX6_renderStreet_95 : decode cX6_renderStreet 95 = .ok (.aload_n 2, 1) := by decide +kernel
theorem dX6_renderStreet_96 : decode cX6_renderStreet 96 = .ok (.getfield 169, 3) := by decide +kernel
theorem dX6_renderStreet_99 : decode cX6_renderStreet 99 = .ok (.iload_n 1, 1) := by decide +kernel
theorem dX6_renderStreet_100 : decode cX6_renderStreet 100 = .ok (.caload, 1) := by decide +kernel
theorem dX6_renderStreet_101 : decode cX6_renderStreet 101 = .ok (.invokevirtual 313, 3) := by decide +kernel
theorem dX6_renderStreet_104 : decode cX6_renderStreet 104 = .ok (.pop, 1) := by decide +kernel
theorem dX6_renderStreet_105 : decode cX6_renderStreet 105 = .ok (.aload_n 0, 1) := by decide +kernel
theorem dX6_renderStreet_106 : decode cX6_renderStreet 106 = .ok (.getfield 48, 3) := by decide +kernel
theorem dX6_renderStreet_109 : decode cX6_renderStreet 109 = .ok (.aload_n 2, 1) := by decide +kernel
theorem dX6_renderStreet_110 : decode cX6_renderStreet 110 = .ok (.getfield 176, 3) := by decide +kernel
theorem dX6_renderStreet_113 : decode cX6_renderStreet 113 = .ok (.iload_n 1, 1) := by decide +kernel
theorem dX6_renderStreet_114 : decode cX6_renderStreet 114 = .ok (.iaload, 1) := by decide +kernel
theorem dX6_renderStreet_115 : decode cX6_renderStreet 115 = .ok (.invokevirtual 309, 3) := by decide +kernel
theorem dX6_renderStreet_118 : decode cX6_renderStreet 118 = .ok (.pop, 1) := by decide +kernel
theorem dX6_renderStreet_119 : decode cX6_renderStreet 119 = .ok (.aload_n 0, 1) := by decide +kernel
theorem dX6_renderStreet_120 : decode cX6_renderStreet 120 = .ok (.getfield 48, 3) := by decide +kernel
theorem dX6_renderStreet_123 : decode cX6_renderStreet 123 = .ok (.ldc_w 316, 3) := by decide +kernel
theorem dX6_renderStreet_126 : decode cX6_renderStreet 126 = .ok (.invokevirtual 318, 3) := by decide +kernel
theorem dX6_renderStreet_129 : decode cX6_renderStreet 129 = .ok (.pop, 1) := by decide +kernel
theorem dX6_renderStreet_130 : decode cX6_renderStreet 130 = .ok (.aload_n 2, 1) := by decide +kernel
theorem dX6_renderStreet_131 : decode cX6_renderStreet 131 = .ok (.iload_n 1, 1) := by decide +kernel
theorem dX6_renderStreet_132 : decode cX6_renderStreet 132 = .ok (.aload_n 0, 1) := by decide +kernel
theorem dX6_renderStreet_133 : decode cX6_renderStreet 133 = .ok (.getfield 21, 3) := by decide +kernel
theorem dX6_renderStreet_136 : decode cX6_renderStreet 136 = .ok (.getfield 182, 3) := by decide +kernel
theorem dX6_renderStreet_139 : decode cX6_renderStreet 139 = .ok (.invokevirtual 185, 3) := by decide +kernel
theorem dX6_renderStreet_142 : decode cX6_renderStreet 142 = .ok (.ifCond .le 13, 3) := by decide +kernel
theorem dX6_renderStreet_145 : decode cX6_renderStreet 145 = .ok (.aload_n 0, 1) := by decide +kernel
theorem dX6_renderStreet_146 : decode cX6_renderStreet 146 = .ok (.getfield 48, 3) := by decide +kernel
theorem dX6_renderStreet_149 : decode cX6_renderStreet 149 = .ok (.bipush 42, 2) := by decide +kernel
theorem dX6_renderStreet_151 : decode cX6_renderStreet 151 = .ok (.invokevirtual 313, 3) := by decide +kernel
theorem dX6_renderStreet_154 : decode cX6_renderStreet 154 = .ok (.pop, 1) := by decide +kernel
theorem dX6_renderStreet_155 : decode cX6_renderStreet 155 = .ok (.aload_n 0, 1) := by decide +kernel
theorem dX6_renderStreet_156 : decode cX6_renderStreet 156 = .ok (.getfield 48, 3) := by decide +kernel
theorem dX6_renderStreet_159 : decode cX6_renderStreet 159 = .ok (.invokevirtual 321, 3) := by decide +kernel
theorem dX6_renderStreet_162 : decode cX6_renderStreet 162 = .ok (.ireturn, 1) := by decide +kernel
theorem dX6_renderQueue_0 : decode cX6_renderQueue 0 = .ok (.aload_n 0, 1) := by decide +kernel
theorem dX6_renderQueue_1 : decode cX6_renderQueue 1 = .ok (.getfield 21, 3) := by decide +kernel
theorem dX6_renderQueue_4 : decode cX6_renderQueue 4 = .ok (.getfield 218, 3) := by decide +kernel
theorem dX6_renderQueue_7 : decode cX6_renderQueue 7 = .ok (.astore_n 2, 1) := by decide +kernel
theorem dX6_renderQueue_8 : decode cX6_renderQueue 8 = .ok (.aload_n 2, 1) := by decide +kernel
theorem dX6_renderQueue_9 : decode cX6_renderQueue 9 = .ok (.iload_n 1, 1) := by decide +kernel
theorem dX6_renderQueue_10 : decode cX6_renderQueue 10 = .ok (.invokevirtual 225, 3) := by decide +kernel
theorem dX6_renderQueue_13 : decode cX6_renderQueue 13 = .ok (.ifCond .ne 13, 3) := by decide +kernel
theorem dX6_renderQueue_16 : decode cX6_renderQueue 16 = .ok (.new 71, 3) := by decide +kernel
theorem dX6_renderQueue_19 : decode cX6_renderQueue 19 = .ok (.dup, 1) := by decide +kernel
theorem dX6_renderQueue_20 : decode cX6_renderQueue 20 = .ok (.ldc 108, 2) := by decide +kernel
theorem dX6_renderQueue_22 : decode cX6_renderQueue 22 = .ok (.invokespecial 75, 3) := by decide +kernel
theorem dX6_renderQueue_25 : decode cX6_renderQueue 25 = .ok (.athrow, 1) := by decide +kernel
theorem dX6_renderQueue_26 : decode cX6_renderQueue 26 = .ok (.aload_n 0, 1) := by decide +kernel
theorem dX6_renderQueue_27 : decode cX6_renderQueue 27 = .ok (.getfield 48, 3) := by decide +kernel
theorem dX6_renderQueue_30 : decode cX6_renderQueue 30 = .ok (.iconst 0, 1) := by decide +kernel
theorem dX6_renderQueue_31 : decode cX6_renderQueue 31 = .ok (.invokevirtual 305, 3) := by decide +kernel
theorem dX6_renderQueue_34 : decode cX6_renderQueue 34 = .ok (.iconst 0, 1) := by decide +kernel
theorem dX6_renderQueue_35 : decode cX6_renderQueue 35 = .ok (.istore_n 3, 1) := by decide +kernel
theorem dX6_renderQueue_36 : decode cX6_renderQueue 36 = .ok (.iload_n 3, 1) := by decide +kernel
theorem dX6_renderQueue_37 : decode cX6_renderQueue 37 = .ok (.aload_n 2, 1) := by decide +kernel
theorem dX6_renderQueue_38 : decode cX6_renderQueue 38 = .ok (.getfield 237, 3) := by decide +kernel
theorem dX6_renderQueue_41 : decode cX6_renderQueue 41 = .ok (.iload_n 1, 1) := by decide +kernel
theorem dX6_renderQueue_42 : decode cX6_renderQueue 42 = .ok (.iaload, 1) := by decide +kernel
theorem dX6_renderQueue_43 : decode cX6_renderQueue 43 = .ok (.if_icmp .ge 37, 3) := by decide +kernel
theorem dX6_renderQueue_46 : decode cX6_renderQueue 46 = .ok (.iload_n 3, 1) := by decide +kernel
theorem dX6_renderQueue_47 : decode cX6_renderQueue 47 = .ok (.ifCond .le 13, 3) := by decide +kernel
theorem dX6_renderQueue_50 : decode cX6_renderQueue 50 = .ok (.aload_n 0, 1) := by decide +kernel
theorem dX6_renderQueue_51 : decode cX6_renderQueue 51 = .ok (.getfield 48, 3) := by decide +kernel
theorem dX6_renderQueue_54 : decode cX6_renderQueue 54 = .ok (.bipush 44, 2) := by decide +kernel
theorem dX6_renderQueue_56 : decode cX6_renderQueue 56 = .ok (.invokevirtual 313, 3) := by decide +kernel
theorem dX6_renderQueue_59 : decode cX6_renderQueue 59 = .ok (.pop, 1) := by decide +kernel
theorem dX6_renderQueue_60 : decode cX6_renderQueue 60 = .ok (.aload_n 0, 1) := by decide +kernel
theorem dX6_renderQueue_61 : decode cX6_renderQueue 61 = .ok (.getfield 48, 3) := by decide +kernel
theorem dX6_renderQueue_64 : decode cX6_renderQueue 64 = .ok (.aload_n 2, 1) := by decide +kernel
theorem dX6_renderQueue_65 : decode cX6_renderQueue 65 = .ok (.iload_n 1, 1) := by decide +kernel
theorem dX6_renderQueue_66 : decode cX6_renderQueue 66 = .ok (.iload_n 3, 1) := by decide +kernel
theorem dX6_renderQueue_67 : decode cX6_renderQueue 67 = .ok (.invokevirtual 240, 3) := by decide +kernel
theorem dX6_renderQueue_70 : decode cX6_renderQueue 70 = .ok (.invokevirtual 309, 3) := by decide +kernel
theorem dX6_renderQueue_73 : decode cX6_renderQueue 73 = .ok (.pop, 1) := by decide +kernel
theorem dX6_renderQueue_74 : decode cX6_renderQueue 74 = .ok (.iinc 3 1, 3) := by decide +kernel
theorem dX6_renderQueue_77 : decode cX6_renderQueue 77 = .ok (.goto (-41), 3) := by decide +kernel
theorem dX6_renderQueue_80 : decode cX6_renderQueue 80 = .ok (.aload_n 0, 1) := by decide +kernel
theorem dX6_renderQueue_81 : decode cX6_renderQueue 81 = .ok (.getfield 48, 3) := by decide +kernel
theorem dX6_renderQueue_84 : decode cX6_renderQueue 84 = .ok (.invokevirtual 321, 3) := by decide +kernel
theorem dX6_renderQueue_87 : decode cX6_renderQueue 87 = .ok (.ireturn, 1) := by decide +kernel
theorem dX6_outputAt_0 : decode cX6_outputAt 0 = .ok (.iload_n 1, 1) := by decide +kernel
theorem dX6_outputAt_1 : decode cX6_outputAt 1 = .ok (.ifCond .lt 14, 3) := by decide +kernel
theorem dX6_outputAt_4 : decode cX6_outputAt 4 = .ok (.iload_n 1, 1) := by decide +kernel
theorem dX6_outputAt_5 : decode cX6_outputAt 5 = .ok (.aload_n 0, 1) := by decide +kernel
theorem dX6_outputAt_6 : decode cX6_outputAt 6 = .ok (.getfield 48, 3) := by decide +kernel
theorem dX6_outputAt_9 : decode cX6_outputAt 9 = .ok (.invokevirtual 321, 3) := by decide +kernel
theorem dX6_outputAt_12 : decode cX6_outputAt 12 = .ok (.if_icmp .lt 14, 3) := by decide +kernel
theorem dX6_outputAt_15 : decode cX6_outputAt 15 = .ok (.new 71, 3) := by decide +kernel
theorem dX6_outputAt_18 : decode cX6_outputAt 18 = .ok (.dup, 1) := by decide +kernel
theorem dX6_outputAt_19 : decode cX6_outputAt 19 = .ok (.ldc_w 324, 3) := by decide +kernel
theorem dX6_outputAt_22 : decode cX6_outputAt 22 = .ok (.invokespecial 75, 3) := by decide +kernel
theorem dX6_outputAt_25 : decode cX6_outputAt 25 = .ok (.athrow, 1) := by decide +kernel
theorem dX6_outputAt_26 : decode cX6_outputAt 26 = .ok (.aload_n 0, 1) := by decide +kernel
theorem dX6_outputAt_27 : decode cX6_outputAt 27 = .ok (.getfield 48, 3) := by decide +kernel
theorem dX6_outputAt_30 : decode cX6_outputAt 30 = .ok (.iload_n 1, 1) := by decide +kernel
theorem dX6_outputAt_31 : decode cX6_outputAt 31 = .ok (.invokevirtual 326, 3) := by decide +kernel
theorem dX6_outputAt_34 : decode cX6_outputAt 34 = .ok (.ireturn, 1) := by decide +kernel
theorem dX6_type_0 : decode cX6_type 0 = .ok (.iload_n 1, 1) := by decide +kernel
theorem dX6_type_1 : decode cX6_type 1 = .ok (.bipush 32, 2) := by decide +kernel
theorem dX6_type_3 : decode cX6_type 3 = .ok (.if_icmp .lt 9, 3) := by decide +kernel
theorem dX6_type_6 : decode cX6_type 6 = .ok (.iload_n 1, 1) := by decide +kernel
theorem dX6_type_7 : decode cX6_type 7 = .ok (.bipush 126, 2) := by decide +kernel
theorem dX6_type_9 : decode cX6_type 9 = .ok (.if_icmp .le 14, 3) := by decide +kernel
theorem dX6_type_12 : decode cX6_type 12 = .ok (.new 78, 3) := by decide +kernel
theorem dX6_type_15 : decode cX6_type 15 = .ok (.dup, 1) := by decide +kernel
theorem dX6_type_16 : decode cX6_type 16 = .ok (.ldc_w 330, 3) := by decide +kernel
theorem dX6_type_19 : decode cX6_type 19 = .ok (.invokespecial 82, 3) := by decide +kernel
theorem dX6_type_22 : decode cX6_type 22 = .ok (.athrow, 1) := by decide +kernel
theorem dX6_type_23 : decode cX6_type 23 = .ok (.aload_n 0, 1) := by decide +kernel
theorem dX6_type_24 : decode cX6_type 24 = .ok (.getfield 41, 3) := by decide +kernel
theorem dX6_type_27 : decode cX6_type 27 = .ok (.getfield 332, 3) := by decide +kernel
theorem dX6_type_30 : decode cX6_type 30 = .ok (.invokevirtual 321, 3) := by decide +kernel
theorem dX6_type_33 : decode cX6_type 33 = .ok (.bipush 60, 2) := by decide +kernel
theorem dX6_type_35 : decode cX6_type 35 = .ok (.if_icmp .lt 14, 3) := by decide +kernel
theorem dX6_type_38 : decode cX6_type 38 = .ok (.new 83, 3) := by decide +kernel
theorem dX6_type_41 : decode cX6_type 41 = .ok (.dup, 1) := by decide +kernel
theorem dX6_type_42 : decode cX6_type 42 = .ok (.ldc_w 335, 3) := by decide +kernel
theorem dX6_type_45 : decode cX6_type 45 = .ok (.invokespecial 87, 3) := by decide +kernel
theorem dX6_type_48 : decode cX6_type 48 = .ok (.athrow, 1) := by decide +kernel
theorem dX6_type_49 : decode cX6_type 49 = .ok (.aload_n 0, 1) := by decide +kernel
theorem dX6_type_50 : decode cX6_type 50 = .ok (.getfield 41, 3) := by decide +kernel
theorem dX6_type_53 : decode cX6_type 53 = .ok (.getfield 332, 3) := by decide +kernel
theorem dX6_type_56 : decode cX6_type 56 = .ok (.iload_n 1, 1) := by decide +kernel
theorem dX6_type_57 : decode cX6_type 57 = .ok (.invokevirtual 313, 3) := by decide +kernel
theorem dX6_type_60 : decode cX6_type 60 = .ok (.pop, 1) := by decide +kernel
theorem dX6_type_61 : decode cX6_type 61 = .ok (.aload_n 0, 1) := by decide +kernel
theorem dX6_type_62 : decode cX6_type 62 = .ok (.getfield 41, 3) := by decide +kernel
theorem dX6_type_65 : decode cX6_type 65 = .ok (.getfield 332, 3) := by decide +kernel
theorem dX6_type_68 : decode cX6_type 68 = .ok (.invokevirtual 321, 3) := by decide +kernel
theorem dX6_type_71 : decode cX6_type 71 = .ok (.ireturn, 1) := by decide +kernel
theorem dX6_runScript_0 : decode cX6_runScript 0 = .ok (.aload_n 0, 1) := by decide +kernel
theorem dX6_runScript_1 : decode cX6_runScript 1 = .ok (.getfield 41, 3) := by decide +kernel
theorem dX6_runScript_4 : decode cX6_runScript 4 = .ok (.invokevirtual 337, 3) := by decide +kernel
theorem dX6_runScript_7 : decode cX6_runScript 7 = .ok (.istore_n 1, 1) := by decide +kernel
theorem dX6_runScript_8 : decode cX6_runScript 8 = .ok (.iload_n 1, 1) := by decide +kernel
theorem dX6_runScript_9 : decode cX6_runScript 9 = .ok (.ifCond .ge 36, 3) := by decide +kernel
theorem dX6_runScript_12 : decode cX6_runScript 12 = .ok (.aload_n 0, 1) := by decide +kernel
theorem dX6_runScript_13 : decode cX6_runScript 13 = .ok (.aload_n 0, 1) := by decide +kernel
theorem dX6_runScript_14 : decode cX6_runScript 14 = .ok (.getfield 41, 3) := by decide +kernel
theorem dX6_runScript_17 : decode cX6_runScript 17 = .ok (.getfield 340, 3) := by decide +kernel
theorem dX6_runScript_20 : decode cX6_runScript 20 = .ok (.putfield 56, 3) := by decide +kernel
theorem dX6_runScript_23 : decode cX6_runScript 23 = .ok (.aload_n 0, 1) := by decide +kernel
theorem dX6_runScript_24 : decode cX6_runScript 24 = .ok (.getfield 41, 3) := by decide +kernel
theorem dX6_runScript_27 : decode cX6_runScript 27 = .ok (.getfield 332, 3) := by decide +kernel
theorem dX6_runScript_30 : decode cX6_runScript 30 = .ok (.iconst 0, 1) := by decide +kernel
theorem dX6_runScript_31 : decode cX6_runScript 31 = .ok (.invokevirtual 305, 3) := by decide +kernel
theorem dX6_runScript_34 : decode cX6_runScript 34 = .ok (.new 78, 3) := by decide +kernel
theorem dX6_runScript_37 : decode cX6_runScript 37 = .ok (.dup, 1) := by decide +kernel
theorem dX6_runScript_38 : decode cX6_runScript 38 = .ok (.ldc_w 343, 3) := by decide +kernel
theorem dX6_runScript_41 : decode cX6_runScript 41 = .ok (.invokespecial 82, 3) := by decide +kernel
theorem dX6_runScript_44 : decode cX6_runScript 44 = .ok (.athrow, 1) := by decide +kernel
theorem dX6_runScript_45 : decode cX6_runScript 45 = .ok (.aload_n 0, 1) := by decide +kernel
theorem dX6_runScript_46 : decode cX6_runScript 46 = .ok (.getfield 34, 3) := by decide +kernel
theorem dX6_runScript_49 : decode cX6_runScript 49 = .ok (.aload_n 0, 1) := by decide +kernel
theorem dX6_runScript_50 : decode cX6_runScript 50 = .ok (.getfield 21, 3) := by decide +kernel
theorem dX6_runScript_53 : decode cX6_runScript 53 = .ok (.invokevirtual 63, 3) := by decide +kernel
theorem dX6_runScript_56 : decode cX6_runScript 56 = .ok (.aload_n 0, 1) := by decide +kernel
theorem dX6_runScript_57 : decode cX6_runScript 57 = .ok (.getfield 41, 3) := by decide +kernel
theorem dX6_runScript_60 : decode cX6_runScript 60 = .ok (.iconst 0, 1) := by decide +kernel
theorem dX6_runScript_61 : decode cX6_runScript 61 = .ok (.putfield 340, 3) := by decide +kernel
theorem dX6_runScript_64 : decode cX6_runScript 64 = .ok (.iconst 0, 1) := by decide +kernel
theorem dX6_runScript_65 : decode cX6_runScript 65 = .ok (.istore_n 2, 1) := by decide +kernel
theorem dX6_runScript_66 : decode cX6_runScript 66 = .ok (.iload_n 2, 1) := by decide +kernel
theorem dX6_runScript_67 : decode cX6_runScript 67 = .ok (.iload_n 1, 1) := by decide +kernel
theorem dX6_runScript_68 : decode cX6_runScript 68 = .ok (.if_icmp .ge 54, 3) := by decide +kernel
theorem dX6_runScript_71 : decode cX6_runScript 71 = .ok (.aload_n 0, 1) := by decide +kernel
theorem dX6_runScript_72 : decode cX6_runScript 72 = .ok (.invokevirtual 345, 3) := by decide +kernel
theorem dX6_runScript_75 : decode cX6_runScript 75 = .ok (.ifCond .ge 41, 3) := by decide +kernel
theorem dX6_runScript_78 : decode cX6_runScript 78 = .ok (.aload_n 0, 1) := by decide +kernel
theorem dX6_runScript_79 : decode cX6_runScript 79 = .ok (.iload_n 2, 1) := by decide +kernel
theorem dX6_runScript_80 : decode cX6_runScript 80 = .ok (.putfield 60, 3) := by decide +kernel
theorem dX6_runScript_83 : decode cX6_runScript 83 = .ok (.aload_n 0, 1) := by decide +kernel
theorem dX6_runScript_84 : decode cX6_runScript 84 = .ok (.getfield 34, 3) := by decide +kernel
theorem dX6_runScript_87 : decode cX6_runScript 87 = .ok (.aload_n 0, 1) := by decide +kernel
theorem dX6_runScript_88 : decode cX6_runScript 88 = .ok (.getfield 21, 3) := by decide +kernel
theorem dX6_runScript_91 : decode cX6_runScript 91 = .ok (.invokevirtual 348, 3) := by decide +kernel
theorem dX6_runScript_94 : decode cX6_runScript 94 = .ok (.aload_n 0, 1) := by decide +kernel
theorem dX6_runScript_95 : decode cX6_runScript 95 = .ok (.getfield 41, 3) := by decide +kernel
theorem dX6_runScript_98 : decode cX6_runScript 98 = .ok (.getfield 332, 3) := by decide +kernel
theorem dX6_runScript_101 : decode cX6_runScript 101 = .ok (.iconst 0, 1) := by decide +kernel
theorem dX6_runScript_102 : decode cX6_runScript 102 = .ok (.invokevirtual 305, 3) := by decide +kernel
theorem dX6_runScript_105 : decode cX6_runScript 105 = .ok (.new 83, 3) := by decide +kernel
theorem dX6_runScript_108 : decode cX6_runScript 108 = .ok (.dup, 1) := by decide +kernel
theorem dX6_runScript_109 : decode cX6_runScript 109 = .ok (.ldc_w 351, 3) := by decide +kernel
theorem dX6_runScript_112 : decode cX6_runScript 112 = .ok (.invokespecial 87, 3) := by decide +kernel
theorem dX6_runScript_115 : decode cX6_runScript 115 = .ok (.athrow, 1) := by decide +kernel
theorem dX6_runScript_116 : decode cX6_runScript 116 = .ok (.iinc 2 1, 3) := by decide +kernel
theorem dX6_runScript_119 : decode cX6_runScript 119 = .ok (.goto (-53), 3) := by decide +kernel
theorem dX6_runScript_122 : decode cX6_runScript 122 = .ok (.aload_n 0, 1) := by decide +kernel
theorem dX6_runScript_123 : decode cX6_runScript 123 = .ok (.getfield 34, 3) := by decide +kernel
theorem dX6_runScript_126 : decode cX6_runScript 126 = .ok (.invokevirtual 88, 3) := by decide +kernel
theorem dX6_runScript_129 : decode cX6_runScript 129 = .ok (.aload_n 0, 1) := by decide +kernel
theorem dX6_runScript_130 : decode cX6_runScript 130 = .ok (.getfield 41, 3) := by decide +kernel
theorem dX6_runScript_133 : decode cX6_runScript 133 = .ok (.getfield 332, 3) := by decide +kernel
theorem dX6_runScript_136 : decode cX6_runScript 136 = .ok (.iconst 0, 1) := by decide +kernel
theorem dX6_runScript_137 : decode cX6_runScript 137 = .ok (.invokevirtual 305, 3) := by decide +kernel
theorem dX6_runScript_140 : decode cX6_runScript 140 = .ok (.iload_n 1, 1) := by decide +kernel
theorem dX6_runScript_141 : decode cX6_runScript 141 = .ok (.ireturn, 1) := by decide +kernel
theorem dX6_obeyNext_0 : decode cX6_obeyNext 0 = .ok (.aload_n 0, 1) := by decide +kernel
theorem dX6_obeyNext_1 : decode cX6_obeyNext 1 = .ok (.getfield 41, 3) := by decide +kernel
theorem dX6_obeyNext_4 : decode cX6_obeyNext 4 = .ok (.invokevirtual 353, 3) := by decide +kernel
theorem dX6_obeyNext_7 : decode cX6_obeyNext 7 = .ok (.aload_n 0, 1) := by decide +kernel
theorem dX6_obeyNext_8 : decode cX6_obeyNext 8 = .ok (.getfield 41, 3) := by decide +kernel
theorem dX6_obeyNext_11 : decode cX6_obeyNext 11 = .ok (.getfield 356, 3) := by decide +kernel
theorem dX6_obeyNext_14 : decode cX6_obeyNext 14 = .ok (.tableswitch 207 0 7 #[46, 87, 103, 127, 143, 159, 175, 191], 46) := by decide +kernel
theorem dX6_obeyNext_60 : decode cX6_obeyNext 60 = .ok (.aload_n 0, 1) := by decide +kernel
theorem dX6_obeyNext_61 : decode cX6_obeyNext 61 = .ok (.getfield 21, 3) := by decide +kernel
theorem dX6_obeyNext_64 : decode cX6_obeyNext 64 = .ok (.aload_n 0, 1) := by decide +kernel
theorem dX6_obeyNext_65 : decode cX6_obeyNext 65 = .ok (.getfield 41, 3) := by decide +kernel
theorem dX6_obeyNext_68 : decode cX6_obeyNext 68 = .ok (.iconst 0, 1) := by decide +kernel
theorem dX6_obeyNext_69 : decode cX6_obeyNext 69 = .ok (.invokevirtual 359, 3) := by decide +kernel
theorem dX6_obeyNext_72 : decode cX6_obeyNext 72 = .ok (.aload_n 0, 1) := by decide +kernel
theorem dX6_obeyNext_73 : decode cX6_obeyNext 73 = .ok (.getfield 41, 3) := by decide +kernel
theorem dX6_obeyNext_76 : decode cX6_obeyNext 76 = .ok (.iconst 1, 1) := by decide +kernel
theorem dX6_obeyNext_77 : decode cX6_obeyNext 77 = .ok (.invokevirtual 359, 3) := by decide +kernel
theorem dX6_obeyNext_80 : decode cX6_obeyNext 80 = .ok (.aload_n 0, 1) := by decide +kernel
theorem dX6_obeyNext_81 : decode cX6_obeyNext 81 = .ok (.getfield 41, 3) := by decide +kernel
theorem dX6_obeyNext_84 : decode cX6_obeyNext 84 = .ok (.iconst 2, 1) := by decide +kernel
theorem dX6_obeyNext_85 : decode cX6_obeyNext 85 = .ok (.invokevirtual 359, 3) := by decide +kernel
theorem dX6_obeyNext_88 : decode cX6_obeyNext 88 = .ok (.i2c, 1) := by decide +kernel
theorem dX6_obeyNext_89 : decode cX6_obeyNext 89 = .ok (.aload_n 0, 1) := by decide +kernel
theorem dX6_obeyNext_90 : decode cX6_obeyNext 90 = .ok (.getfield 41, 3) := by decide +kernel
theorem dX6_obeyNext_93 : decode cX6_obeyNext 93 = .ok (.iconst 3, 1) := by decide +kernel
theorem dX6_obeyNext_94 : decode cX6_obeyNext 94 = .ok (.invokevirtual 359, 3) := by decide +kernel
theorem dX6_obeyNext_97 : decode cX6_obeyNext 97 = .ok (.invokevirtual 67, 3) := by decide +kernel
theorem dX6_obeyNext_100 : decode cX6_obeyNext 100 = .ok (.ireturn, 1) := by decide +kernel
theorem dX6_obeyNext_101 : decode cX6_obeyNext 101 = .ok (.aload_n 0, 1) := by decide +kernel
theorem dX6_obeyNext_102 : decode cX6_obeyNext 102 = .ok (.getfield 21, 3) := by decide +kernel
theorem dX6_obeyNext_105 : decode cX6_obeyNext 105 = .ok (.aload_n 0, 1) := by decide +kernel
theorem dX6_obeyNext_106 : decode cX6_obeyNext 106 = .ok (.getfield 41, 3) := by decide +kernel
theorem dX6_obeyNext_109 : decode cX6_obeyNext 109 = .ok (.iconst 0, 1) := by decide +kernel
theorem dX6_obeyNext_110 : decode cX6_obeyNext 110 = .ok (.invokevirtual 359, 3) := by decide +kernel
theorem dX6_obeyNext_113 : decode cX6_obeyNext 113 = .ok (.invokevirtual 91, 3) := by decide +kernel
theorem dX6_obeyNext_116 : decode cX6_obeyNext 116 = .ok (.ireturn, 1) := by decide +kernel
theorem dX6_obeyNext_117 : decode cX6_obeyNext 117 = .ok (.aload_n 0, 1) := by decide +kernel
theorem dX6_obeyNext_118 : decode cX6_obeyNext 118 = .ok (.getfield 21, 3) := by decide +kernel
theorem dX6_obeyNext_121 : decode cX6_obeyNext 121 = .ok (.aload_n 0, 1) := by decide +kernel
theorem dX6_obeyNext_122 : decode cX6_obeyNext 122 = .ok (.getfield 41, 3) := by decide +kernel
theorem dX6_obeyNext_125 : decode cX6_obeyNext 125 = .ok (.iconst 0, 1) := by decide +kernel
theorem dX6_obeyNext_126 : decode cX6_obeyNext 126 = .ok (.invokevirtual 359, 3) := by decide +kernel
theorem dX6_obeyNext_129 : decode cX6_obeyNext 129 = .ok (.aload_n 0, 1) := by decide +kernel
theorem dX6_obeyNext_130 : decode cX6_obeyNext 130 = .ok (.getfield 41, 3) := by decide +kernel
theorem dX6_obeyNext_133 : decode cX6_obeyNext 133 = .ok (.iconst 1, 1) := by decide +kernel
theorem dX6_obeyNext_134 : decode cX6_obeyNext 134 = .ok (.invokevirtual 359, 3) := by decide +kernel
theorem dX6_obeyNext_137 : decode cX6_obeyNext 137 = .ok (.invokevirtual 97, 3) := by decide +kernel
theorem dX6_obeyNext_140 : decode cX6_obeyNext 140 = .ok (.ireturn, 1) := by decide +kernel
theorem dX6_obeyNext_141 : decode cX6_obeyNext 141 = .ok (.aload_n 0, 1) := by decide +kernel
theorem dX6_obeyNext_142 : decode cX6_obeyNext 142 = .ok (.getfield 21, 3) := by decide +kernel
theorem dX6_obeyNext_145 : decode cX6_obeyNext 145 = .ok (.aload_n 0, 1) := by decide +kernel
theorem dX6_obeyNext_146 : decode cX6_obeyNext 146 = .ok (.getfield 41, 3) := by decide +kernel
theorem dX6_obeyNext_149 : decode cX6_obeyNext 149 = .ok (.iconst 0, 1) := by decide +kernel
theorem dX6_obeyNext_150 : decode cX6_obeyNext 150 = .ok (.invokevirtual 359, 3) := by decide +kernel
theorem dX6_obeyNext_153 : decode cX6_obeyNext 153 = .ok (.invokevirtual 105, 3) := by decide +kernel
theorem dX6_obeyNext_156 : decode cX6_obeyNext 156 = .ok (.ireturn, 1) := by decide +kernel
theorem dX6_obeyNext_157 : decode cX6_obeyNext 157 = .ok (.aload_n 0, 1) := by decide +kernel
theorem dX6_obeyNext_158 : decode cX6_obeyNext 158 = .ok (.getfield 21, 3) := by decide +kernel
theorem dX6_obeyNext_161 : decode cX6_obeyNext 161 = .ok (.aload_n 0, 1) := by decide +kernel
theorem dX6_obeyNext_162 : decode cX6_obeyNext 162 = .ok (.getfield 41, 3) := by decide +kernel
theorem dX6_obeyNext_165 : decode cX6_obeyNext 165 = .ok (.iconst 0, 1) := by decide +kernel
theorem dX6_obeyNext_166 : decode cX6_obeyNext 166 = .ok (.invokevirtual 359, 3) := by decide +kernel
theorem dX6_obeyNext_169 : decode cX6_obeyNext 169 = .ok (.invokevirtual 115, 3) := by decide +kernel
theorem dX6_obeyNext_172 : decode cX6_obeyNext 172 = .ok (.ireturn, 1) := by decide +kernel
theorem dX6_obeyNext_173 : decode cX6_obeyNext 173 = .ok (.aload_n 0, 1) := by decide +kernel
theorem dX6_obeyNext_174 : decode cX6_obeyNext 174 = .ok (.getfield 21, 3) := by decide +kernel
theorem dX6_obeyNext_177 : decode cX6_obeyNext 177 = .ok (.aload_n 0, 1) := by decide +kernel
theorem dX6_obeyNext_178 : decode cX6_obeyNext 178 = .ok (.getfield 41, 3) := by decide +kernel
theorem dX6_obeyNext_181 : decode cX6_obeyNext 181 = .ok (.iconst 0, 1) := by decide +kernel
theorem dX6_obeyNext_182 : decode cX6_obeyNext 182 = .ok (.invokevirtual 359, 3) := by decide +kernel
theorem dX6_obeyNext_185 : decode cX6_obeyNext 185 = .ok (.invokevirtual 127, 3) := by decide +kernel
theorem dX6_obeyNext_188 : decode cX6_obeyNext 188 = .ok (.ireturn, 1) := by decide +kernel
theorem dX6_obeyNext_189 : decode cX6_obeyNext 189 = .ok (.aload_n 0, 1) := by decide +kernel
theorem dX6_obeyNext_190 : decode cX6_obeyNext 190 = .ok (.getfield 21, 3) := by decide +kernel
theorem dX6_obeyNext_193 : decode cX6_obeyNext 193 = .ok (.aload_n 0, 1) := by decide +kernel
theorem dX6_obeyNext_194 : decode cX6_obeyNext 194 = .ok (.getfield 41, 3) := by decide +kernel
theorem dX6_obeyNext_197 : decode cX6_obeyNext 197 = .ok (.iconst 0, 1) := by decide +kernel
theorem dX6_obeyNext_198 : decode cX6_obeyNext 198 = .ok (.invokevirtual 359, 3) := by decide +kernel
theorem dX6_obeyNext_201 : decode cX6_obeyNext 201 = .ok (.invokevirtual 134, 3) := by decide +kernel
theorem dX6_obeyNext_204 : decode cX6_obeyNext 204 = .ok (.ireturn, 1) := by decide +kernel
theorem dX6_obeyNext_205 : decode cX6_obeyNext 205 = .ok (.aload_n 0, 1) := by decide +kernel
theorem dX6_obeyNext_206 : decode cX6_obeyNext 206 = .ok (.getfield 21, 3) := by decide +kernel
theorem dX6_obeyNext_209 : decode cX6_obeyNext 209 = .ok (.aload_n 0, 1) := by decide +kernel
theorem dX6_obeyNext_210 : decode cX6_obeyNext 210 = .ok (.getfield 41, 3) := by decide +kernel
theorem dX6_obeyNext_213 : decode cX6_obeyNext 213 = .ok (.iconst 0, 1) := by decide +kernel
theorem dX6_obeyNext_214 : decode cX6_obeyNext 214 = .ok (.invokevirtual 359, 3) := by decide +kernel
theorem dX6_obeyNext_217 : decode cX6_obeyNext 217 = .ok (.invokevirtual 139, 3) := by decide +kernel
theorem dX6_obeyNext_220 : decode cX6_obeyNext 220 = .ok (.ireturn, 1) := by decide +kernel
theorem dX6_obeyNext_221 : decode cX6_obeyNext 221 = .ok (.aload_n 0, 1) := by decide +kernel
theorem dX6_obeyNext_222 : decode cX6_obeyNext 222 = .ok (.getfield 21, 3) := by decide +kernel
theorem dX6_obeyNext_225 : decode cX6_obeyNext 225 = .ok (.aload_n 0, 1) := by decide +kernel
theorem dX6_obeyNext_226 : decode cX6_obeyNext 226 = .ok (.getfield 41, 3) := by decide +kernel
theorem dX6_obeyNext_229 : decode cX6_obeyNext 229 = .ok (.iconst 0, 1) := by decide +kernel
theorem dX6_obeyNext_230 : decode cX6_obeyNext 230 = .ok (.invokevirtual 359, 3) := by decide +kernel
theorem dX6_obeyNext_233 : decode cX6_obeyNext 233 = .ok (.invokevirtual 144, 3) := by decide +kernel
theorem dX6_obeyNext_236 : decode cX6_obeyNext 236 = .ok (.ireturn, 1) := by decide +kernel
theorem dX6_errorPosition_0 : decode cX6_errorPosition 0 = .ok (.aload_n 0, 1) := by decide +kernel
theorem dX6_errorPosition_1 : decode cX6_errorPosition 1 = .ok (.getfield 56, 3) := by decide +kernel
theorem dX6_errorPosition_4 : decode cX6_errorPosition 4 = .ok (.ifCond .ge 14, 3) := by decide +kernel
theorem dX6_errorPosition_7 : decode cX6_errorPosition 7 = .ok (.new 110, 3) := by decide +kernel
theorem dX6_errorPosition_10 : decode cX6_errorPosition 10 = .ok (.dup, 1) := by decide +kernel
theorem dX6_errorPosition_11 : decode cX6_errorPosition 11 = .ok (.ldc_w 362, 3) := by decide +kernel
theorem dX6_errorPosition_14 : decode cX6_errorPosition 14 = .ok (.invokespecial 114, 3) := by decide +kernel
theorem dX6_errorPosition_17 : decode cX6_errorPosition 17 = .ok (.athrow, 1) := by decide +kernel
theorem dX6_errorPosition_18 : decode cX6_errorPosition 18 = .ok (.aload_n 0, 1) := by decide +kernel
theorem dX6_errorPosition_19 : decode cX6_errorPosition 19 = .ok (.getfield 56, 3) := by decide +kernel
theorem dX6_errorPosition_22 : decode cX6_errorPosition 22 = .ok (.ireturn, 1) := by decide +kernel
theorem dX6_failedCommand_0 : decode cX6_failedCommand 0 = .ok (.aload_n 0, 1) := by decide +kernel
theorem dX6_failedCommand_1 : decode cX6_failedCommand 1 = .ok (.getfield 60, 3) := by decide +kernel
theorem dX6_failedCommand_4 : decode cX6_failedCommand 4 = .ok (.ifCond .ge 14, 3) := by decide +kernel
theorem dX6_failedCommand_7 : decode cX6_failedCommand 7 = .ok (.new 110, 3) := by decide +kernel
theorem dX6_failedCommand_10 : decode cX6_failedCommand 10 = .ok (.dup, 1) := by decide +kernel
theorem dX6_failedCommand_11 : decode cX6_failedCommand 11 = .ok (.ldc_w 364, 3) := by decide +kernel
theorem dX6_failedCommand_14 : decode cX6_failedCommand 14 = .ok (.invokespecial 114, 3) := by decide +kernel
theorem dX6_failedCommand_17 : decode cX6_failedCommand 17 = .ok (.athrow, 1) := by decide +kernel
theorem dX6_failedCommand_18 : decode cX6_failedCommand 18 = .ok (.aload_n 0, 1) := by decide +kernel
theorem dX6_failedCommand_19 : decode cX6_failedCommand 19 = .ok (.getfield 60, 3) := by decide +kernel
theorem dX6_failedCommand_22 : decode cX6_failedCommand 22 = .ok (.ireturn, 1) := by decide +kernel
theorem dX6_undo_0 : decode cX6_undo 0 = .ok (.aload_n 0, 1) := by decide +kernel
theorem dX6_undo_1 : decode cX6_undo 1 = .ok (.getfield 34, 3) := by decide +kernel
theorem dX6_undo_4 : decode cX6_undo 4 = .ok (.getfield 366, 3) := by decide +kernel
theorem dX6_undo_7 : decode cX6_undo 7 = .ok (.ifCond .gt 14, 3) := by decide +kernel
theorem dX6_undo_10 : decode cX6_undo 10 = .ok (.new 110, 3) := by decide +kernel
theorem dX6_undo_13 : decode cX6_undo 13 = .ok (.dup, 1) := by decide +kernel
theorem dX6_undo_14 : decode cX6_undo 14 = .ok (.ldc_w 367, 3) := by decide +kernel
theorem dX6_undo_17 : decode cX6_undo 17 = .ok (.invokespecial 114, 3) := by decide +kernel
theorem dX6_undo_20 : decode cX6_undo 20 = .ok (.athrow, 1) := by decide +kernel
theorem dX6_undo_21 : decode cX6_undo 21 = .ok (.aload_n 0, 1) := by decide +kernel
theorem dX6_undo_22 : decode cX6_undo 22 = .ok (.getfield 34, 3) := by decide +kernel
theorem dX6_undo_25 : decode cX6_undo 25 = .ok (.invokevirtual 369, 3) := by decide +kernel
theorem dX6_undo_28 : decode cX6_undo 28 = .ok (.aload_n 0, 1) := by decide +kernel
theorem dX6_undo_29 : decode cX6_undo 29 = .ok (.getfield 34, 3) := by decide +kernel
theorem dX6_undo_32 : decode cX6_undo 32 = .ok (.aload_n 0, 1) := by decide +kernel
theorem dX6_undo_33 : decode cX6_undo 33 = .ok (.getfield 21, 3) := by decide +kernel
theorem dX6_undo_36 : decode cX6_undo 36 = .ok (.invokevirtual 348, 3) := by decide +kernel
theorem dX6_undo_39 : decode cX6_undo 39 = .ok (.aload_n 0, 1) := by decide +kernel
theorem dX6_undo_40 : decode cX6_undo 40 = .ok (.getfield 34, 3) := by decide +kernel
theorem dX6_undo_43 : decode cX6_undo 43 = .ok (.getfield 366, 3) := by decide +kernel
theorem dX6_undo_46 : decode cX6_undo 46 = .ok (.ireturn, 1) := by decide +kernel
theorem dX6_save_0 : decode cX6_save 0 = .ok (.aload_n 0, 1) := by decide +kernel
theorem dX6_save_1 : decode cX6_save 1 = .ok (.getfield 28, 3) := by decide +kernel
theorem dX6_save_4 : decode cX6_save 4 = .ok (.aload_n 0, 1) := by decide +kernel
theorem dX6_save_5 : decode cX6_save 5 = .ok (.getfield 21, 3) := by decide +kernel
theorem dX6_save_8 : decode cX6_save 8 = .ok (.invokevirtual 255, 3) := by decide +kernel
theorem dX6_save_11 : decode cX6_save 11 = .ok (.aload_n 0, 1) := by decide +kernel
theorem dX6_save_12 : decode cX6_save 12 = .ok (.iconst 1, 1) := by decide +kernel
theorem dX6_save_13 : decode cX6_save 13 = .ok (.putfield 52, 3) := by decide +kernel
theorem dX6_save_16 : decode cX6_save 16 = .ok (.aload_n 0, 1) := by decide +kernel
theorem dX6_save_17 : decode cX6_save 17 = .ok (.getfield 21, 3) := by decide +kernel
theorem dX6_save_20 : decode cX6_save 20 = .ok (.getfield 149, 3) := by decide +kernel
theorem dX6_save_23 : decode cX6_save 23 = .ok (.getfield 153, 3) := by decide +kernel
theorem dX6_save_26 : decode cX6_save 26 = .ok (.ireturn, 1) := by decide +kernel
theorem dX6_restore_0 : decode cX6_restore 0 = .ok (.aload_n 0, 1) := by decide +kernel
theorem dX6_restore_1 : decode cX6_restore 1 = .ok (.getfield 52, 3) := by decide +kernel
theorem dX6_restore_4 : decode cX6_restore 4 = .ok (.ifCond .ne 14, 3) := by decide +kernel
theorem dX6_restore_7 : decode cX6_restore 7 = .ok (.new 83, 3) := by decide +kernel
theorem dX6_restore_10 : decode cX6_restore 10 = .ok (.dup, 1) := by decide +kernel
theorem dX6_restore_11 : decode cX6_restore 11 = .ok (.ldc_w 372, 3) := by decide +kernel
theorem dX6_restore_14 : decode cX6_restore 14 = .ok (.invokespecial 87, 3) := by decide +kernel
theorem dX6_restore_17 : decode cX6_restore 17 = .ok (.athrow, 1) := by decide +kernel
theorem dX6_restore_18 : decode cX6_restore 18 = .ok (.aload_n 0, 1) := by decide +kernel
theorem dX6_restore_19 : decode cX6_restore 19 = .ok (.getfield 21, 3) := by decide +kernel
theorem dX6_restore_22 : decode cX6_restore 22 = .ok (.aload_n 0, 1) := by decide +kernel
theorem dX6_restore_23 : decode cX6_restore 23 = .ok (.getfield 28, 3) := by decide +kernel
theorem dX6_restore_26 : decode cX6_restore 26 = .ok (.invokevirtual 255, 3) := by decide +kernel
theorem dX6_restore_29 : decode cX6_restore 29 = .ok (.aload_n 0, 1) := by decide +kernel
theorem dX6_restore_30 : decode cX6_restore 30 = .ok (.getfield 34, 3) := by decide +kernel
theorem dX6_restore_33 : decode cX6_restore 33 = .ok (.iconst 0, 1) := by decide +kernel
theorem dX6_restore_34 : decode cX6_restore 34 = .ok (.putfield 366, 3) := by decide +kernel
theorem dX6_restore_37 : decode cX6_restore 37 = .ok (.aload_n 0, 1) := by decide +kernel
theorem dX6_restore_38 : decode cX6_restore 38 = .ok (.getfield 21, 3) := by decide +kernel
theorem dX6_restore_41 : decode cX6_restore 41 = .ok (.getfield 149, 3) := by decide +kernel
theorem dX6_restore_44 : decode cX6_restore 44 = .ok (.getfield 153, 3) := by decide +kernel
theorem dX6_restore_47 : decode cX6_restore 47 = .ok (.ireturn, 1) := by decide +kernel
set_option maxRecDepth 20000 in
theorem ggX0_init_X5_init : GoodIn wsX0_init wsX5_init := goodIn_r _ [10, 11, 2, 3, 12, 13, 14, 15, 16, 17, 18, 19, 20, 21, 22, 23, 24, 25, 26, 27, 28, 29, 30, 31, 32, 33, 34, 35, 36, 37, 38, 39, 40, 41, 45, 46, 47, 48, 49, 50, 51, 52, 53, 54, 55, 56, 57, 58, 59, 60, 61, 62, 63, 64, 65, 66, 67, 68, 69, 70] (by decide +kernel) (by decide +kernel)
set_option maxRecDepth 20000 in
theorem gX0_init_X5_init : GoodIn wsX0_init (wsX5_init) := ggX0_init_X5_init
set_option maxRecDepth 20000 in
theorem ggX0_write_X0_freePlace : GoodIn wsX0_write wsX0_freePlace := goodIn_r _ [5, 6, 7, 53, 54, 55] (by decide +kernel) (by decide +kernel)
set_option maxRecDepth 20000 in
theorem gX0_write_X0_freePlace : GoodIn wsX0_write (wsV RX0 20 RX0 yX0_freePlace wsX0_freePlace) := goodIn_app (goodIn_of _ (by decide +kernel)) ggX0_write_X0_freePlace
set_option maxRecDepth 20000 in
theorem ggX0_write_X5_copyFrom : GoodIn wsX0_write wsX5_copyFrom := goodIn_r _ [12, 13, 14, 15, 16, 17, 18, 19, 20, 21, 22, 23, 24, 25, 26, 27, 28, 29, 30, 31, 32, 33, 34, 35, 36, 37, 38, 39, 40, 41, 42, 43, 44, 45, 46, 47, 48, 49, 50, 51, 52, 56, 57, 58, 59, 60, 61, 62, 63, 64, 65, 66, 67, 68, 69, 70, 71, 72, 73, 74, 75, 76, 77, 78, 79, 80, 81] (by decide +kernel) (by decide +kernel)
set_option maxRecDepth 20000 in
theorem gX0_write_X5_copyFrom : GoodIn wsX0_write (wsV RX0 24 RX5 yX5_copyFrom wsX5_copyFrom) := goodIn_app (goodIn_of _ (by decide +kernel)) ggX0_write_X5_copyFrom
set_option maxRecDepth 20000 in
theorem ggX0_read_X0_freePlace : GoodIn wsX0_read wsX0_freePlace := goodIn_r _ [5, 6, 7, 53, 54, 55] (by decide +kernel) (by decide +kernel)
set_option maxRecDepth 20000 in
theorem gX0_read_X0_freePlace : GoodIn wsX0_read (wsV RX0 20 RX0 yX0_freePlace wsX0_freePlace) := goodIn_app (goodIn_of _ (by decide +kernel)) ggX0_read_X0_freePlace
set_option maxRecDepth 20000 in
theorem ggX0_read_X5_copyFrom : GoodIn wsX0_read wsX5_copyFrom := goodIn_r _ [12, 13, 14, 15, 16, 17, 18, 19, 20, 21, 22, 23, 24, 25, 26, 27, 28, 29, 30, 31, 32, 33, 34, 35, 36, 37, 38, 39, 40, 41, 42, 43, 44, 45, 46, 47, 48, 49, 50, 51, 52, 56, 57, 58, 59, 60, 61, 62, 63, 64, 65, 66, 67, 68, 69, 70, 71, 72, 73, 74, 75, 76, 77, 78, 79, 80, 81] (by decide +kernel) (by decide +kernel)
set_option maxRecDepth 20000 in
theorem gX0_read_X5_copyFrom : GoodIn wsX0_read (wsV RX0 24 RX5 yX5_copyFrom wsX5_copyFrom) := goodIn_app (goodIn_of _ (by decide +kernel)) ggX0_read_X5_copyFrom
set_option maxRecDepth 20000 in
theorem ggX3_init_J4_init_da8c8 : GoodIn wsX3_init wsJ4_init_da8c8 := goodIn_r _ [12, 13, 14, 15, 16, 17, 2, 3, 18, 19, 20, 21, 22, 23, 24, 25, 26, 27, 28, 29, 30, 31, 32, 33] (by decide +kernel) (by decide +kernel)
set_option maxRecDepth 20000 in
theorem gX3_init_J4_init_da8c8 : GoodIn wsX3_init (wsJ4_init_da8c8) := ggX3_init_J4_init_da8c8
set_option maxRecDepth 20000 in
theorem ggX3_countCommands_X3_readCommand : GoodIn wsX3_countCommands wsX3_readCommand := goodIn_ca (goodIn_r _ [7, 8, 9, 10, 11, 12, 1, 13, 14, 6, 15, 16, 17, 18, 19, 20, 21, 22, 23, 24, 25, 26, 27, 28, 29, 30, 31, 32, 33, 34, 35, 36, 37, 38, 39, 40, 41, 42, 43, 44, 45, 46, 47, 48, 49, 50, 51, 52, 53, 54, 55, 56, 57, 58, 59, 60, 61, 62, 63, 64, 65, 66, 67, 68, 69, 70, 71, 72, 2, 73, 74, 75, 76, 77, 78, 79, 80, 81, 82, 83, 84, 85, 86, 87, 88, 89, 90, 91, 92, 93, 94, 95, 96, 97, 98, 99, 100, 101, 102, 103, 104, 105, 106, 107, 108, 109, 110, 111, 112, 113, 114, 115, 116, 117, 118, 119, 120, 121, 122, 123, 124, 125, 126] (by decide +kernel) (by decide +kernel)) (goodIn_sub (fun _ h => List.mem_cons_of_mem _ (List.mem_append_right _ h)) (by decide +kernel))
set_option maxRecDepth 20000 in
theorem gX3_countCommands_X3_readCommand : GoodIn wsX3_countCommands (wsV RX3 44 RX3 yX3_readCommand wsX3_readCommand) := goodIn_app (goodIn_of _ (by decide +kernel)) ggX3_countCommands_X3_readCommand
set_option maxRecDepth 20000 in
theorem ggX3_countCommands_J4_length_8abf5 : GoodIn wsX3_countCommands wsJ4_length_8abf5 := goodIn_r _ [77, 78, 79, 80, 81, 82, 83, 84, 123, 124, 125, 126] (by decide +kernel) (by decide +kernel)
set_option maxRecDepth 20000 in
theorem gX3_countCommands_J4_length_8abf5 : GoodIn wsX3_countCommands (wsV RX3 48 RJ4 yJ4_length_8abf5 wsJ4_length_8abf5) := goodIn_app (goodIn_of _ (by decide +kernel)) ggX3_countCommands_J4_length_8abf5
set_option maxRecDepth 20000 in
theorem ggX3_countCommands_X3_signAt : GoodIn wsX3_countCommands wsX3_signAt := goodIn_r _ [72, 2, 73, 74, 75, 76, 77, 78, 79, 80, 81, 82, 83, 84, 85, 86, 87, 88, 89, 90, 91, 92, 93, 94, 95, 96, 11, 97, 98, 45, 23, 46, 47, 48, 49, 50, 51, 99, 64, 54, 65, 66, 67, 68, 59, 60, 61, 115, 116, 117, 118, 123, 124, 125, 126] (by decide +kernel) (by decide +kernel)
set_option maxRecDepth 20000 in
theorem gX3_countCommands_X3_signAt : GoodIn wsX3_countCommands (wsV RX3 52 RX3 yX3_signAt wsX3_signAt) := goodIn_app (goodIn_of _ (by decide +kernel)) ggX3_countCommands_X3_signAt
set_option maxRecDepth 20000 in
theorem ggX3_readNext_X3_readCommand : GoodIn wsX3_readNext wsX3_readCommand := goodIn_ca (goodIn_r _ [6, 7, 8, 9, 10, 11, 1, 12, 13, 5, 14, 15, 16, 17, 18, 19, 20, 21, 22, 23, 24, 25, 26, 27, 28, 29, 30, 31, 32, 33, 34, 35, 36, 37, 38, 39, 40, 41, 42, 43, 44, 45, 46, 47, 48, 49, 50, 51, 52, 53, 54, 55, 56, 57, 58, 59, 60, 61, 62, 63, 64, 65, 66, 67, 68, 69, 70, 71, 72, 73, 74, 75, 76, 77, 78, 79, 80, 81, 82, 83, 84, 85, 86, 87, 88, 89, 90, 91, 92, 93, 94, 95, 96, 97, 98, 99, 100, 101, 102, 103, 104, 105, 106, 107, 108, 109, 110, 111, 112, 113, 114, 115, 116, 117, 118, 119, 120, 121, 122, 123, 124, 125, 126] (by decide +kernel) (by decide +kernel)) (goodIn_sub (fun _ h => List.mem_cons_of_mem _ (List.mem_append_right _ h)) (by decide +kernel))
set_option maxRecDepth 20000 in
theorem gX3_readNext_X3_readCommand : GoodIn wsX3_readNext (wsV RX3 44 RX3 yX3_readCommand wsX3_readCommand) := goodIn_app (goodIn_of _ (by decide +kernel)) ggX3_readNext_X3_readCommand
set_option maxRecDepth 20000 in
theorem ggX3_readCommand_X3_formOf : GoodIn wsX3_readCommand wsX3_formOf := goodIn_r _ [10] (by decide +kernel) (by decide +kernel)
set_option maxRecDepth 20000 in
theorem gX3_readCommand_X3_formOf : GoodIn wsX3_readCommand (va_wsS RX3 56 yX3_formOf wsX3_formOf) := goodIn_app (goodIn_of _ (by decide +kernel)) ggX3_readCommand_X3_formOf
set_option maxRecDepth 20000 in
theorem ggX3_readCommand_X3_fittingSigns : GoodIn wsX3_readCommand wsX3_fittingSigns := goodIn_r _ [14, 6, 15, 16, 17, 18, 19, 20, 21, 22, 23, 24, 25, 26, 27, 28, 29, 30, 31, 32, 33, 34, 35, 36, 37, 38, 39, 40, 41, 42, 43, 44, 45, 46, 47, 48, 49, 50, 51, 52, 53, 54, 55, 56, 57, 58, 59, 60, 61, 62, 63, 64, 65, 66, 9, 67, 68, 69, 70, 71, 72, 73, 74, 75, 76, 77, 78, 79, 80, 81, 82, 83, 84, 85, 86, 87, 88, 89, 90, 91, 92, 4, 93, 94, 95, 96, 97, 98, 99, 100, 101, 111, 112, 113, 114, 115, 116, 117, 118, 119, 120, 121, 122] (by decide +kernel) (by decide +kernel)
set_option maxRecDepth 20000 in
theorem gX3_readCommand_X3_fittingSigns : GoodIn wsX3_readCommand (wsV RX3 60 RX3 yX3_fittingSigns wsX3_fittingSigns) := goodIn_app (goodIn_of _ (by decide +kernel)) ggX3_readCommand_X3_fittingSigns
set_option maxRecDepth 20000 in
theorem ggX3_readCommand_J0_length_8abf5 : GoodIn wsX3_readCommand wsJ0_length_8abf5 := goodIn_r _ [19, 20, 21, 22, 23, 18, 24, 25, 26, 115, 116, 117, 118] (by decide +kernel) (by decide +kernel)
set_option maxRecDepth 20000 in
theorem gX3_readCommand_J0_length_8abf5 : GoodIn wsX3_readCommand (wsV RX3 64 RJ0 yJ0_length_8abf5 wsJ0_length_8abf5) := goodIn_app (goodIn_of _ (by decide +kernel)) ggX3_readCommand_J0_length_8abf5
set_option maxRecDepth 20000 in
theorem ggX3_readCommand_X3_readValues : GoodIn wsX3_readCommand wsX3_readValues := goodIn_ca (goodIn_r _ [105, 106, 6, 15, 16, 17, 18, 19, 20, 21, 22, 23, 24, 25, 26, 27, 28, 29, 30, 31, 32, 33, 34, 35, 36, 37, 38, 39, 40, 41, 42, 43, 44, 45, 46, 47, 48, 49, 50, 51, 52, 53, 54, 55, 56, 57, 58, 59, 60, 61, 62, 63, 64, 65, 66, 9, 67, 68, 69, 70, 71, 72, 73, 74, 75, 76, 77, 78, 79, 80, 81, 82, 83, 84, 85, 86, 87, 88, 89, 90, 91, 92, 4, 93, 94, 95, 107, 108, 109, 110, 99, 100, 101, 111, 112, 113, 114, 115, 116, 117, 118, 119, 120, 121, 122] (by decide +kernel) (by decide +kernel)) (goodIn_sub (fun _ h => List.mem_cons_of_mem _ (List.mem_append_right _ h)) (by decide +kernel))
set_option maxRecDepth 20000 in
theorem gX3_readCommand_X3_readValues : GoodIn wsX3_readCommand (wsV RX3 70 RX3 yX3_readValues wsX3_readValues) := goodIn_app (goodIn_of _ (by decide +kernel)) ggX3_readCommand_X3_readValues
set_option maxRecDepth 20000 in
theorem ggX3_fittingSigns_J0_length_8abf5 : GoodIn wsX3_fittingSigns wsJ0_length_8abf5 := goodIn_r _ [6, 7, 8, 9, 10, 5, 11, 12, 13, 95, 96, 97, 98] (by decide +kernel) (by decide +kernel)
set_option maxRecDepth 20000 in
theorem gX3_fittingSigns_J0_length_8abf5 : GoodIn wsX3_fittingSigns (wsV RX3 64 RJ0 yJ0_length_8abf5 wsJ0_length_8abf5) := goodIn_app (goodIn_of _ (by decide +kernel)) ggX3_fittingSigns_J0_length_8abf5
set_option maxRecDepth 20000 in
theorem ggX3_fittingSigns_J0_charAt_5068e : GoodIn wsX3_fittingSigns wsJ0_charAt_5068e := goodIn_r _ [17, 7, 18, 19, 20, 5, 21, 12, 13, 22, 23, 24, 25, 26, 27, 28, 29, 30, 31, 32, 33, 34, 35, 36, 37, 38, 39, 40, 41, 42, 43, 44, 45, 46, 47, 48, 49, 50, 95, 96, 97, 98] (by decide +kernel) (by decide +kernel)
set_option maxRecDepth 20000 in
theorem gX3_fittingSigns_J0_charAt_5068e : GoodIn wsX3_fittingSigns (wsV RX3 80 RJ0 yJ0_charAt_5068e wsJ0_charAt_5068e) := goodIn_app (goodIn_of _ (by decide +kernel)) ggX3_fittingSigns_J0_charAt_5068e
set_option maxRecDepth 20000 in
theorem ggX3_fittingSigns_X3_signAt : GoodIn wsX3_fittingSigns wsX3_signAt := goodIn_r _ [55, 56, 57, 58, 59, 60, 61, 62, 63, 64, 65, 66, 67, 68, 69, 70, 71, 72, 73, 74, 75, 76, 77, 78, 79, 80, 81, 82, 83, 27, 5, 28, 29, 30, 31, 32, 33, 84, 46, 36, 47, 48, 49, 50, 41, 42, 43, 91, 92, 93, 94, 99, 100, 101, 102] (by decide +kernel) (by decide +kernel)
set_option maxRecDepth 20000 in
theorem gX3_fittingSigns_X3_signAt : GoodIn wsX3_fittingSigns (wsV RX3 52 RX3 yX3_signAt wsX3_signAt) := goodIn_app (goodIn_of _ (by decide +kernel)) ggX3_fittingSigns_X3_signAt
set_option maxRecDepth 20000 in
theorem ggX3_fittingSigns_X3_fits : GoodIn wsX3_fittingSigns wsX3_fits := goodIn_r _ [87, 88, 89, 54, 90] (by decide +kernel) (by decide +kernel)
set_option maxRecDepth 20000 in
theorem gX3_fittingSigns_X3_fits : GoodIn wsX3_fittingSigns (va_wsS RX3 83 yX3_fits wsX3_fits) := goodIn_app (goodIn_of _ (by decide +kernel)) ggX3_fittingSigns_X3_fits
set_option maxRecDepth 20000 in
theorem ggX3_fits_X3_isDigit : GoodIn wsX3_fits wsX3_isDigit := goodIn_r _ [4] (by decide +kernel) (by decide +kernel)
set_option maxRecDepth 20000 in
theorem gX3_fits_X3_isDigit : GoodIn wsX3_fits (va_wsS RX3 87 yX3_isDigit wsX3_isDigit) := goodIn_app (goodIn_of _ (by decide +kernel)) ggX3_fits_X3_isDigit
set_option maxRecDepth 20000 in
theorem ggX3_signAt_J4_length_8abf5 : GoodIn wsX3_signAt wsJ4_length_8abf5 := goodIn_r _ [6, 7, 8, 9, 10, 11, 12, 13, 51, 52, 53, 54] (by decide +kernel) (by decide +kernel)
set_option maxRecDepth 20000 in
theorem gX3_signAt_J4_length_8abf5 : GoodIn wsX3_signAt (wsV RX3 48 RJ4 yJ4_length_8abf5 wsJ4_length_8abf5) := goodIn_app (goodIn_of _ (by decide +kernel)) ggX3_signAt_J4_length_8abf5
set_option maxRecDepth 20000 in
theorem ggX3_signAt_J4_charAt_5068e : GoodIn wsX3_signAt wsJ4_charAt_5068e := goodIn_r _ [17, 18, 19, 9, 20, 11, 21, 22, 23, 13, 24, 25, 26, 27, 28, 29, 30, 31, 32, 33, 34, 35, 36, 37, 38, 39, 40, 41, 42, 43, 44, 45, 46, 51, 52, 53, 54] (by decide +kernel) (by decide +kernel)
set_option maxRecDepth 20000 in
theorem gX3_signAt_J4_charAt_5068e : GoodIn wsX3_signAt (wsV RX3 91 RJ4 yJ4_charAt_5068e wsJ4_charAt_5068e) := goodIn_app (goodIn_of _ (by decide +kernel)) ggX3_signAt_J4_charAt_5068e
set_option maxRecDepth 20000 in
theorem ggX3_readValues_J0_length_8abf5 : GoodIn wsX3_readValues wsJ0_length_8abf5 := goodIn_r _ [7, 8, 9, 10, 11, 6, 12, 13, 14, 97, 98, 99, 100] (by decide +kernel) (by decide +kernel)
set_option maxRecDepth 20000 in
theorem gX3_readValues_J0_length_8abf5 : GoodIn wsX3_readValues (wsV RX3 64 RJ0 yJ0_length_8abf5 wsJ0_length_8abf5) := goodIn_app (goodIn_of _ (by decide +kernel)) ggX3_readValues_J0_length_8abf5
set_option maxRecDepth 20000 in
theorem ggX3_readValues_J0_charAt_5068e : GoodIn wsX3_readValues wsJ0_charAt_5068e := goodIn_r _ [18, 8, 19, 20, 21, 6, 22, 13, 14, 23, 24, 25, 26, 27, 28, 29, 30, 31, 32, 33, 34, 35, 36, 37, 38, 39, 40, 41, 42, 43, 44, 45, 46, 47, 48, 49, 50, 51, 97, 98, 99, 100] (by decide +kernel) (by decide +kernel)
set_option maxRecDepth 20000 in
theorem gX3_readValues_J0_charAt_5068e : GoodIn wsX3_readValues (wsV RX3 80 RJ0 yJ0_charAt_5068e wsJ0_charAt_5068e) := goodIn_app (goodIn_of _ (by decide +kernel)) ggX3_readValues_J0_charAt_5068e
set_option maxRecDepth 20000 in
theorem ggX3_readValues_X3_signAt : GoodIn wsX3_readValues wsX3_signAt := goodIn_r _ [56, 57, 58, 59, 60, 61, 62, 63, 64, 65, 66, 67, 68, 69, 70, 71, 72, 73, 74, 75, 76, 77, 78, 79, 80, 81, 82, 83, 84, 28, 6, 29, 30, 31, 32, 33, 34, 85, 47, 37, 48, 49, 50, 51, 42, 43, 44, 93, 94, 95, 96, 101, 102, 103, 104] (by decide +kernel) (by decide +kernel)
set_option maxRecDepth 20000 in
theorem gX3_readValues_X3_signAt : GoodIn wsX3_readValues (wsV RX3 52 RX3 yX3_signAt wsX3_signAt) := goodIn_app (goodIn_of _ (by decide +kernel)) ggX3_readValues_X3_signAt
set_option maxRecDepth 20000 in
theorem ggX3_readValues_X3_readNumber : GoodIn wsX3_readValues wsX3_readNumber := goodIn_r _ [89, 2, 52, 53, 54, 55, 56, 57, 58, 59, 60, 61, 62, 63, 64, 65, 66, 67, 68, 69, 70, 71, 72, 73, 74, 75, 76, 77, 78, 79, 80, 81, 82, 83, 84, 28, 6, 29, 30, 31, 32, 33, 34, 85, 47, 37, 48, 49, 50, 51, 42, 43, 44, 90, 91, 92, 93, 94, 95, 96, 101, 102, 103, 104] (by decide +kernel) (by decide +kernel)
set_option maxRecDepth 20000 in
theorem gX3_readValues_X3_readNumber : GoodIn wsX3_readValues (wsV RX3 92 RX3 yX3_readNumber wsX3_readNumber) := goodIn_app (goodIn_of _ (by decide +kernel)) ggX3_readValues_X3_readNumber
set_option maxRecDepth 20000 in
theorem ggX3_readNumber_X3_signAt : GoodIn wsX3_readNumber wsX3_signAt := goodIn_r _ [6, 7, 8, 9, 10, 11, 12, 13, 14, 15, 16, 17, 18, 19, 20, 21, 22, 23, 24, 25, 26, 27, 28, 29, 30, 31, 32, 33, 34, 35, 36, 37, 38, 39, 40, 41, 42, 43, 44, 45, 46, 47, 48, 49, 50, 51, 52, 56, 57, 58, 59, 60, 61, 62, 63] (by decide +kernel) (by decide +kernel)
set_option maxRecDepth 20000 in
theorem gX3_readNumber_X3_signAt : GoodIn wsX3_readNumber (wsV RX3 52 RX3 yX3_signAt wsX3_signAt) := goodIn_app (goodIn_of _ (by decide +kernel)) ggX3_readNumber_X3_signAt
set_option maxRecDepth 20000 in
theorem ggX3_readNumber_X3_isDigit : GoodIn wsX3_readNumber wsX3_isDigit := goodIn_r _ [55] (by decide +kernel) (by decide +kernel)
set_option maxRecDepth 20000 in
theorem gX3_readNumber_X3_isDigit : GoodIn wsX3_readNumber (va_wsS RX3 87 yX3_isDigit wsX3_isDigit) := goodIn_app (goodIn_of _ (by decide +kernel)) ggX3_readNumber_X3_isDigit
set_option maxRecDepth 20000 in
theorem ggX6_init_X1_init : GoodIn wsX6_init wsX1_init := goodIn_r _ [30, 31, 2, 3, 32, 33, 34, 35, 36, 104, 105, 106] (by decide +kernel) (by decide +kernel)
set_option maxRecDepth 20000 in
theorem gX6_init_X1_init_n9 : GoodIn wsX6_init (wsX1_init) := ggX6_init_X1_init
set_option maxRecDepth 20000 in
theorem ggX6_init_X5_init : GoodIn wsX6_init wsX5_init := goodIn_r _ [39, 40, 2, 3, 41, 42, 43, 44, 45, 46, 47, 48, 49, 50, 51, 52, 32, 53, 54, 55, 56, 57, 58, 59, 60, 61, 62, 63, 64, 65, 66, 67, 68, 69, 117, 118, 119, 120, 121, 122, 123, 124, 125, 126, 127, 139, 140, 141, 142, 143, 144, 145, 146, 147, 148, 149, 150, 151, 152, 153] (by decide +kernel) (by decide +kernel)
set_option maxRecDepth 20000 in
theorem gX6_init_X5_init : GoodIn wsX6_init (wsX5_init) := ggX6_init_X5_init
set_option maxRecDepth 20000 in
theorem ggX6_init_X0_init : GoodIn wsX6_init wsX0_init := goodIn_r _ [72, 73, 2, 3, 74, 75, 9, 10, 76, 38, 39, 40, 41, 42, 43, 44, 45, 46, 47, 48, 49, 50, 51, 52, 32, 53, 54, 55, 56, 57, 58, 59, 60, 61, 62, 63, 64, 65, 66, 67, 68, 69, 128, 129, 130, 117, 118, 119, 120, 121, 122, 123, 124, 125, 126, 127, 139, 140, 141, 142, 143, 144, 145, 146, 147, 148, 149, 150, 151, 152, 153] (by decide +kernel) (by decide +kernel)
set_option maxRecDepth 20000 in
theorem gX6_init_X0_init : GoodIn wsX6_init (wsX0_init) := ggX6_init_X0_init
set_option maxRecDepth 20000 in
theorem ggX6_init_X3_init : GoodIn wsX6_init wsX3_init := goodIn_r _ [78, 79, 2, 3, 80, 23, 24, 81, 32, 82, 83, 84, 85, 86, 87, 88, 89, 90, 91, 92, 93, 94, 95, 96, 97, 98, 99, 100, 101, 102, 135, 136, 137, 138, 131, 132, 133, 134] (by decide +kernel) (by decide +kernel)
set_option maxRecDepth 20000 in
theorem gX6_init_X3_init_n40 : GoodIn wsX6_init (wsX3_init) := ggX6_init_X3_init
set_option maxRecDepth 20000 in
theorem ggX6_init_J4_init_da8c8 : GoodIn wsX6_init wsJ4_init_da8c8 := goodIn_r _ [85, 86, 87, 88, 89, 90, 2, 3, 91, 92, 93, 94, 95, 96, 97, 98, 99, 100, 101, 102, 135, 136, 137, 138] (by decide +kernel) (by decide +kernel)
set_option maxRecDepth 20000 in
theorem gX6_init_J4_init_da8c8 : GoodIn wsX6_init (wsJ4_init_da8c8) := ggX6_init_J4_init_da8c8
set_option maxRecDepth 20000 in
theorem ggX6_addStreet_X0_write : GoodIn wsX6_addStreet wsX0_write := goodIn_r _ [13, 14, 15, 16, 12, 17, 18, 19, 20, 21, 22, 23, 24, 25, 26, 27, 28, 29, 30, 31, 32, 33, 34, 35, 36, 37, 38, 39, 40, 41, 42, 43, 44, 45, 46, 47, 48, 49, 50, 51, 52, 53, 54, 55, 56, 57, 58, 59, 60, 61, 62, 63, 64, 103, 104, 105, 106, 107, 108, 109, 110, 111, 112, 113, 114, 115, 116, 117, 118, 119, 120, 121, 122, 123, 124, 125, 126, 127, 128, 129, 130, 131] (by decide +kernel) (by decide +kernel)
set_option maxRecDepth 20000 in
theorem gX6_addStreet_X0_write : GoodIn wsX6_addStreet (wsV RX6 63 RX0 yX0_write wsX0_write) := goodIn_app (goodIn_of _ (by decide +kernel)) ggX6_addStreet_X0_write
set_option maxRecDepth 20000 in
theorem ggX6_addStreet_X5_putStreet : GoodIn wsX6_addStreet wsX5_putStreet := goodIn_ca (goodIn_r _ [68, 69, 70, 71, 72, 73, 74, 75, 25, 76, 77, 78, 79, 80, 81, 38, 82, 52, 40, 45, 83, 84, 85, 86, 46, 47, 48, 49, 50, 51, 106, 107, 108, 109, 110, 111, 112, 113, 114, 115, 116, 117, 118, 119, 120, 121, 122, 123, 124, 125] (by decide +kernel) (by decide +kernel)) (goodIn_sub (fun _ h => List.mem_cons_of_mem _ (List.mem_append_right _ h)) (by decide +kernel))
set_option maxRecDepth 20000 in
theorem gX6_addStreet_X5_putStreet : GoodIn wsX6_addStreet (wsV RX6 67 RX5 yX5_putStreet wsX5_putStreet) := goodIn_app (goodIn_of _ (by decide +kernel)) ggX6_addStreet_X5_putStreet
set_option maxRecDepth 20000 in
theorem ggX6_addStreet_X0_push : GoodIn wsX6_addStreet wsX0_push := goodIn_r _ [90, 18, 91, 92, 70, 71, 72, 103, 104, 105] (by decide +kernel) (by decide +kernel)
set_option maxRecDepth 20000 in
theorem gX6_addStreet_X0_push : GoodIn wsX6_addStreet (wsV RX6 88 RX0 yX0_push wsX0_push) := goodIn_app (goodIn_of _ (by decide +kernel)) ggX6_addStreet_X0_push
set_option maxRecDepth 20000 in
theorem ggX6_addPlough_X0_write : GoodIn wsX6_addPlough wsX0_write := goodIn_r _ [11, 12, 13, 14, 10, 15, 16, 17, 18, 19, 20, 21, 22, 23, 24, 25, 26, 27, 28, 29, 30, 31, 32, 33, 34, 35, 36, 37, 38, 39, 40, 41, 42, 43, 44, 45, 46, 47, 48, 49, 50, 51, 52, 53, 54, 55, 56, 57, 58, 59, 60, 61, 62, 93, 94, 95, 96, 97, 98, 99, 100, 101, 102, 103, 104, 105, 106, 107, 108, 109, 110, 111, 112, 113, 114, 115, 116, 117, 118, 119, 120, 121] (by decide +kernel) (by decide +kernel)
set_option maxRecDepth 20000 in
theorem gX6_addPlough_X0_write : GoodIn wsX6_addPlough (wsV RX6 63 RX0 yX0_write wsX0_write) := goodIn_app (goodIn_of _ (by decide +kernel)) ggX6_addPlough_X0_write
set_option maxRecDepth 20000 in
theorem ggX6_addPlough_X5_putPlough : GoodIn wsX6_addPlough wsX5_putPlough := goodIn_ca (goodIn_r _ [66, 24, 67, 68, 69, 70, 71, 72, 54, 73, 62, 56, 58, 59, 60, 96, 97, 98, 99, 100, 101, 102, 103, 104, 105, 106, 116, 117, 118, 119, 120, 121] (by decide +kernel) (by decide +kernel)) (goodIn_sub (fun _ h => List.mem_cons_of_mem _ (List.mem_append_right _ h)) (by decide +kernel))
set_option maxRecDepth 20000 in
theorem gX6_addPlough_X5_putPlough : GoodIn wsX6_addPlough (wsV RX6 91 RX5 yX5_putPlough wsX5_putPlough) := goodIn_app (goodIn_of _ (by decide +kernel)) ggX6_addPlough_X5_putPlough
set_option maxRecDepth 20000 in
theorem ggX6_addPlough_X0_push : GoodIn wsX6_addPlough wsX0_push := goodIn_r _ [77, 16, 78, 79, 80, 81, 82, 93, 94, 95] (by decide +kernel) (by decide +kernel)
set_option maxRecDepth 20000 in
theorem gX6_addPlough_X0_push : GoodIn wsX6_addPlough (wsV RX6 88 RX0 yX0_push wsX0_push) := goodIn_app (goodIn_of _ (by decide +kernel)) ggX6_addPlough_X0_push
set_option maxRecDepth 20000 in
theorem ggX6_order_X0_write : GoodIn wsX6_order wsX0_write := goodIn_r _ [11, 12, 13, 14, 10, 15, 16, 17, 18, 19, 20, 21, 22, 23, 24, 25, 26, 27, 28, 29, 30, 31, 32, 33, 34, 35, 36, 37, 38, 39, 40, 41, 42, 43, 44, 45, 46, 47, 48, 49, 50, 51, 52, 53, 54, 55, 56, 57, 58, 59, 60, 61, 62, 98, 99, 100, 101, 102, 103, 104, 105, 106, 107, 108, 109, 110, 111, 112, 113, 114, 115, 116, 117, 118, 119, 120, 121, 122, 123, 124, 125, 126] (by decide +kernel) (by decide +kernel)
set_option maxRecDepth 20000 in
theorem gX6_order_X0_write : GoodIn wsX6_order (wsV RX6 63 RX0 yX0_write wsX0_write) := goodIn_app (goodIn_of _ (by decide +kernel)) ggX6_order_X0_write
set_option maxRecDepth 20000 in
theorem ggX6_order_X5_appendOrder : GoodIn wsX6_order wsX5_appendOrder := goodIn_ca (goodIn_r _ [66, 23, 24, 67, 68, 69, 36, 70, 50, 71, 72, 73, 54, 74, 60, 61, 75, 76, 77, 78, 62, 101, 102, 103, 104, 105, 106, 107, 108, 109, 110, 111, 112, 113, 114, 115, 116, 117, 118, 119, 120, 121, 122, 123, 124, 125, 126] (by decide +kernel) (by decide +kernel)) (goodIn_sub (fun _ h => List.mem_cons_of_mem _ (List.mem_append_right _ h)) (by decide +kernel))
set_option maxRecDepth 20000 in
theorem gX6_order_X5_appendOrder : GoodIn wsX6_order (wsV RX6 97 RX5 yX5_appendOrder wsX5_appendOrder) := goodIn_app (goodIn_of _ (by decide +kernel)) ggX6_order_X5_appendOrder
set_option maxRecDepth 20000 in
theorem ggX6_order_X0_push : GoodIn wsX6_order wsX0_push := goodIn_r _ [82, 16, 83, 84, 85, 86, 87, 98, 99, 100] (by decide +kernel) (by decide +kernel)
set_option maxRecDepth 20000 in
theorem gX6_order_X0_push : GoodIn wsX6_order (wsV RX6 88 RX0 yX0_push wsX0_push) := goodIn_app (goodIn_of _ (by decide +kernel)) ggX6_order_X0_push
set_option maxRecDepth 20000 in
theorem ggX6_cancelOrder_X0_write : GoodIn wsX6_cancelOrder wsX0_write := goodIn_r _ [11, 12, 13, 14, 10, 15, 16, 17, 18, 19, 20, 21, 22, 23, 24, 25, 26, 27, 28, 29, 30, 31, 32, 33, 34, 35, 36, 37, 38, 39, 40, 41, 42, 43, 44, 45, 46, 47, 48, 49, 50, 51, 52, 53, 54, 55, 56, 57, 58, 59, 60, 61, 62, 98, 99, 100, 101, 102, 103, 104, 105, 106, 107, 108, 109, 110, 111, 112, 113, 114, 115, 116, 117, 118, 119, 120, 121, 122, 123, 124, 125, 126] (by decide +kernel) (by decide +kernel)
set_option maxRecDepth 20000 in
theorem gX6_cancelOrder_X0_write : GoodIn wsX6_cancelOrder (wsV RX6 63 RX0 yX0_write wsX0_write) := goodIn_app (goodIn_of _ (by decide +kernel)) ggX6_cancelOrder_X0_write
set_option maxRecDepth 20000 in
theorem ggX6_cancelOrder_X5_removeOrder : GoodIn wsX6_cancelOrder wsX5_removeOrder := goodIn_ca (goodIn_r _ [66, 24, 67, 68, 69, 54, 70, 60, 71, 72, 73, 74, 62, 75, 76, 77, 78, 61, 101, 102, 103, 104, 105, 106, 107, 108, 109, 110, 111, 121, 122, 123, 124, 125, 126] (by decide +kernel) (by decide +kernel)) (goodIn_sub (fun _ h => List.mem_cons_of_mem _ (List.mem_append_right _ h)) (by decide +kernel))
set_option maxRecDepth 20000 in
theorem gX6_cancelOrder_X5_removeOrder : GoodIn wsX6_cancelOrder (wsV RX6 105 RX5 yX5_removeOrder wsX5_removeOrder) := goodIn_app (goodIn_of _ (by decide +kernel)) ggX6_cancelOrder_X5_removeOrder
set_option maxRecDepth 20000 in
theorem ggX6_cancelOrder_X0_push : GoodIn wsX6_cancelOrder wsX0_push := goodIn_r _ [82, 16, 83, 84, 85, 86, 87, 98, 99, 100] (by decide +kernel) (by decide +kernel)
set_option maxRecDepth 20000 in
theorem gX6_cancelOrder_X0_push : GoodIn wsX6_cancelOrder (wsV RX6 88 RX0 yX0_push wsX0_push) := goodIn_app (goodIn_of _ (by decide +kernel)) ggX6_cancelOrder_X0_push
set_option maxRecDepth 20000 in
theorem ggX6_salt_X0_write : GoodIn wsX6_salt wsX0_write := goodIn_r _ [13, 14, 15, 16, 12, 17, 18, 19, 20, 21, 22, 23, 24, 25, 26, 27, 28, 29, 30, 31, 32, 33, 34, 35, 36, 37, 38, 39, 40, 41, 42, 43, 44, 45, 46, 47, 48, 49, 50, 51, 52, 53, 54, 55, 56, 57, 58, 59, 60, 61, 62, 63, 64, 99, 100, 101, 102, 103, 104, 105, 106, 107, 108, 109, 110, 111, 112, 113, 114, 115, 116, 117, 118, 119, 120, 121, 122, 123, 124, 125, 126, 127] (by decide +kernel) (by decide +kernel)
set_option maxRecDepth 20000 in
theorem gX6_salt_X0_write : GoodIn wsX6_salt (wsV RX6 63 RX0 yX0_write wsX0_write) := goodIn_app (goodIn_of _ (by decide +kernel)) ggX6_salt_X0_write
set_option maxRecDepth 20000 in
theorem ggX6_salt_X5_spreadSalt : GoodIn wsX6_salt wsX5_spreadSalt := goodIn_ca (goodIn_r _ [68, 25, 27, 28, 69, 70, 71, 72, 73, 38, 74, 52, 75, 76, 77, 78, 49, 79, 102, 103, 104, 105, 106, 107, 108, 109, 110, 111, 112, 113, 114, 115, 116, 117, 118, 119, 120, 121] (by decide +kernel) (by decide +kernel)) (goodIn_sub (fun _ h => List.mem_cons_of_mem _ (List.mem_append_right _ h)) (by decide +kernel))
set_option maxRecDepth 20000 in
theorem gX6_salt_X5_spreadSalt : GoodIn wsX6_salt (wsV RX6 115 RX5 yX5_spreadSalt wsX5_spreadSalt) := goodIn_app (goodIn_of _ (by decide +kernel)) ggX6_salt_X5_spreadSalt
set_option maxRecDepth 20000 in
theorem ggX6_salt_X0_push : GoodIn wsX6_salt wsX0_push := goodIn_r _ [83, 18, 84, 85, 86, 87, 88, 99, 100, 101] (by decide +kernel) (by decide +kernel)
set_option maxRecDepth 20000 in
theorem gX6_salt_X0_push : GoodIn wsX6_salt (wsV RX6 88 RX0 yX0_push wsX0_push) := goodIn_app (goodIn_of _ (by decide +kernel)) ggX6_salt_X0_push
set_option maxRecDepth 20000 in
theorem ggX6_loadSalt_X0_write : GoodIn wsX6_loadSalt wsX0_write := goodIn_r _ [11, 12, 13, 14, 10, 15, 16, 17, 18, 19, 20, 21, 22, 23, 24, 25, 26, 27, 28, 29, 30, 31, 32, 33, 34, 35, 36, 37, 38, 39, 40, 41, 42, 43, 44, 45, 46, 47, 48, 49, 50, 51, 52, 53, 54, 55, 56, 57, 58, 59, 60, 61, 62, 86, 87, 88, 89, 90, 91, 92, 93, 94, 95, 96, 97, 98, 99, 100, 101, 102, 103, 104, 105, 106, 107, 108, 109, 110, 111, 112, 113, 114] (by decide +kernel) (by decide +kernel)
set_option maxRecDepth 20000 in
theorem gX6_loadSalt_X0_write : GoodIn wsX6_loadSalt (wsV RX6 63 RX0 yX0_write wsX0_write) := goodIn_app (goodIn_of _ (by decide +kernel)) ggX6_loadSalt_X0_write
set_option maxRecDepth 20000 in
theorem ggX6_loadSalt_X5_fillStore : GoodIn wsX6_loadSalt wsX5_fillStore := goodIn_r _ [66, 26, 89, 90, 91, 92, 93, 94, 95, 96, 97, 98, 99] (by decide +kernel) (by decide +kernel)
set_option maxRecDepth 20000 in
theorem gX6_loadSalt_X5_fillStore : GoodIn wsX6_loadSalt (wsV RX6 127 RX5 yX5_fillStore wsX5_fillStore) := goodIn_app (goodIn_of _ (by decide +kernel)) ggX6_loadSalt_X5_fillStore
set_option maxRecDepth 20000 in
theorem ggX6_loadSalt_X0_push : GoodIn wsX6_loadSalt wsX0_push := goodIn_r _ [70, 16, 71, 72, 73, 74, 75, 86, 87, 88] (by decide +kernel) (by decide +kernel)
set_option maxRecDepth 20000 in
theorem gX6_loadSalt_X0_push : GoodIn wsX6_loadSalt (wsV RX6 88 RX0 yX0_push wsX0_push) := goodIn_app (goodIn_of _ (by decide +kernel)) ggX6_loadSalt_X0_push
set_option maxRecDepth 20000 in
theorem ggX6_setSnowfall_X0_write : GoodIn wsX6_setSnowfall wsX0_write := goodIn_r _ [9, 10, 11, 12, 8, 13, 14, 15, 16, 17, 18, 19, 20, 21, 22, 23, 24, 25, 26, 27, 28, 29, 30, 31, 32, 33, 34, 35, 36, 37, 38, 39, 40, 41, 42, 43, 44, 45, 46, 47, 48, 49, 50, 51, 52, 53, 54, 55, 56, 57, 58, 59, 60, 84, 85, 86, 87, 88, 89, 90, 91, 92, 93, 94, 95, 96, 97, 98, 99, 100, 101, 102, 103, 104, 105, 106, 107, 108, 109, 110, 111, 112] (by decide +kernel) (by decide +kernel)
set_option maxRecDepth 20000 in
theorem gX6_setSnowfall_X0_write : GoodIn wsX6_setSnowfall (wsV RX6 63 RX0 yX0_write wsX0_write) := goodIn_app (goodIn_of _ (by decide +kernel)) ggX6_setSnowfall_X0_write
set_option maxRecDepth 20000 in
theorem ggX6_setSnowfall_X5_changeRate : GoodIn wsX6_setSnowfall wsX5_changeRate := goodIn_r _ [64, 25, 87, 88, 89, 90, 91, 92, 93, 94, 95, 96, 97] (by decide +kernel) (by decide +kernel)
set_option maxRecDepth 20000 in
theorem gX6_setSnowfall_X5_changeRate : GoodIn wsX6_setSnowfall (wsV RX6 134 RX5 yX5_changeRate wsX5_changeRate) := goodIn_app (goodIn_of _ (by decide +kernel)) ggX6_setSnowfall_X5_changeRate
set_option maxRecDepth 20000 in
theorem ggX6_setSnowfall_X0_push : GoodIn wsX6_setSnowfall wsX0_push := goodIn_r _ [68, 14, 69, 70, 71, 72, 73, 84, 85, 86] (by decide +kernel) (by decide +kernel)
set_option maxRecDepth 20000 in
theorem gX6_setSnowfall_X0_push : GoodIn wsX6_setSnowfall (wsV RX6 88 RX0 yX0_push wsX0_push) := goodIn_app (goodIn_of _ (by decide +kernel)) ggX6_setSnowfall_X0_push
set_option maxRecDepth 20000 in
theorem ggX6_setWind_X0_write : GoodIn wsX6_setWind wsX0_write := goodIn_r _ [9, 10, 11, 12, 8, 13, 14, 15, 16, 17, 18, 19, 20, 21, 22, 23, 24, 25, 26, 27, 28, 29, 30, 31, 32, 33, 34, 35, 36, 37, 38, 39, 40, 41, 42, 43, 44, 45, 46, 47, 48, 49, 50, 51, 52, 53, 54, 55, 56, 57, 58, 59, 60, 84, 85, 86, 87, 88, 89, 90, 91, 92, 93, 94, 95, 96, 97, 98, 99, 100, 101, 102, 103, 104, 105, 106, 107, 108, 109, 110, 111, 112] (by decide +kernel) (by decide +kernel)
set_option maxRecDepth 20000 in
theorem gX6_setWind_X0_write : GoodIn wsX6_setWind (wsV RX6 63 RX0 yX0_write wsX0_write) := goodIn_app (goodIn_of _ (by decide +kernel)) ggX6_setWind_X0_write
set_option maxRecDepth 20000 in
theorem ggX6_setWind_X5_changeForce : GoodIn wsX6_setWind wsX5_changeForce := goodIn_r _ [64, 26, 87, 88, 89, 90, 91, 92, 93, 94, 95, 96, 97] (by decide +kernel) (by decide +kernel)
set_option maxRecDepth 20000 in
theorem gX6_setWind_X5_changeForce : GoodIn wsX6_setWind (wsV RX6 139 RX5 yX5_changeForce wsX5_changeForce) := goodIn_app (goodIn_of _ (by decide +kernel)) ggX6_setWind_X5_changeForce
set_option maxRecDepth 20000 in
theorem ggX6_setWind_X0_push : GoodIn wsX6_setWind wsX0_push := goodIn_r _ [68, 14, 69, 70, 71, 72, 73, 84, 85, 86] (by decide +kernel) (by decide +kernel)
set_option maxRecDepth 20000 in
theorem gX6_setWind_X0_push : GoodIn wsX6_setWind (wsV RX6 88 RX0 yX0_push wsX0_push) := goodIn_app (goodIn_of _ (by decide +kernel)) ggX6_setWind_X0_push
set_option maxRecDepth 20000 in
theorem ggX6_advance_X0_write : GoodIn wsX6_advance wsX0_write := goodIn_r _ [9, 10, 11, 12, 8, 13, 14, 15, 16, 17, 18, 19, 20, 21, 22, 23, 24, 25, 26, 27, 28, 29, 30, 31, 32, 33, 34, 35, 36, 37, 38, 39, 40, 41, 42, 43, 44, 45, 46, 47, 48, 49, 50, 51, 52, 53, 54, 55, 56, 57, 58, 59, 60, 190, 191, 192, 193, 194, 195, 196, 197, 198, 199, 200, 201, 202, 203, 204, 205, 206, 207, 208, 209, 210, 211, 212, 213, 214, 215, 216, 217, 218] (by decide +kernel) (by decide +kernel)
set_option maxRecDepth 20000 in
theorem gX6_advance_X0_write : GoodIn wsX6_advance (wsV RX6 63 RX0 yX0_write wsX0_write) := goodIn_app (goodIn_of _ (by decide +kernel)) ggX6_advance_X0_write
set_option maxRecDepth 20000 in
theorem ggX6_advance_X5_passMinutes : GoodIn wsX6_advance wsX5_passMinutes := goodIn_ca (goodIn_r _ [64, 27, 23, 22, 65, 66, 67, 68, 52, 69, 57, 58, 70, 71, 72, 73, 60, 74, 75, 76, 19, 77, 78, 21, 29, 79, 80, 81, 82, 83, 84, 85, 59, 86, 87, 88, 89, 90, 91, 92, 93, 94, 95, 96, 97, 98, 99, 100, 101, 102, 103, 34, 104, 48, 105, 106, 107, 108, 109, 110, 111, 112, 113, 114, 115, 116, 117, 118, 119, 120, 121, 122, 123, 124, 125, 126, 36, 41, 127, 128, 129, 130, 131, 132, 133, 134, 56, 54, 135, 136, 137, 138, 139, 140, 141, 142, 28, 143, 144, 145, 146, 147, 148, 25, 26, 30, 149, 150, 151, 152, 44, 153, 154, 155, 156, 157, 45, 158, 159, 160, 161, 162, 163, 164, 165, 166, 167, 168, 169, 46, 170, 171, 172, 173, 42, 193, 194, 195, 196, 197, 198, 199, 200, 201, 202, 203, 213, 214, 215, 216, 217, 218, 204, 205, 206, 207, 208, 209, 210, 211, 212, 219, 220, 221] (by decide +kernel) (by decide +kernel)) (goodIn_sub (fun _ h => List.mem_cons_of_mem _ (List.mem_append_right _ h)) (by decide +kernel))
set_option maxRecDepth 20000 in
theorem gX6_advance_X5_passMinutes : GoodIn wsX6_advance (wsV RX6 144 RX5 yX5_passMinutes wsX5_passMinutes) := goodIn_app (goodIn_of _ (by decide +kernel)) ggX6_advance_X5_passMinutes
set_option maxRecDepth 20000 in
theorem ggX6_advance_X0_push : GoodIn wsX6_advance wsX0_push := goodIn_r _ [177, 14, 178, 179, 96, 97, 98, 190, 191, 192] (by decide +kernel) (by decide +kernel)
set_option maxRecDepth 20000 in
theorem gX6_advance_X0_push : GoodIn wsX6_advance (wsV RX6 88 RX0 yX0_push wsX0_push) := goodIn_app (goodIn_of _ (by decide +kernel)) ggX6_advance_X0_push
set_option maxRecDepth 20000 in
theorem ggX6_lowerEnd_X4_has : GoodIn wsX6_lowerEnd wsX4_has := goodIn_r _ [10, 11, 33, 34, 35, 36, 37, 38, 39, 40, 41] (by decide +kernel) (by decide +kernel)
set_option maxRecDepth 20000 in
theorem gX6_lowerEnd_X4_has : GoodIn wsX6_lowerEnd (wsV RX6 158 RX4 yX4_has wsX4_has) := goodIn_app (goodIn_of _ (by decide +kernel)) ggX6_lowerEnd_X4_has
set_option maxRecDepth 20000 in
theorem ggX6_higherEnd_X4_has : GoodIn wsX6_higherEnd wsX4_has := goodIn_r _ [10, 11, 33, 34, 35, 36, 37, 38, 39, 40, 41] (by decide +kernel) (by decide +kernel)
set_option maxRecDepth 20000 in
theorem gX6_higherEnd_X4_has : GoodIn wsX6_higherEnd (wsV RX6 158 RX4 yX4_has wsX4_has) := goodIn_app (goodIn_of _ (by decide +kernel)) ggX6_higherEnd_X4_has
set_option maxRecDepth 20000 in
theorem ggX6_streetClass_X4_has : GoodIn wsX6_streetClass wsX4_has := goodIn_r _ [10, 11, 33, 34, 35, 36, 37, 38, 39, 40, 41] (by decide +kernel) (by decide +kernel)
set_option maxRecDepth 20000 in
theorem gX6_streetClass_X4_has : GoodIn wsX6_streetClass (wsV RX6 158 RX4 yX4_has wsX4_has) := goodIn_app (goodIn_of _ (by decide +kernel)) ggX6_streetClass_X4_has
set_option maxRecDepth 20000 in
theorem ggX6_length_X4_has : GoodIn wsX6_length wsX4_has := goodIn_r _ [10, 11, 33, 34, 35, 36, 37, 38, 39, 40, 41] (by decide +kernel) (by decide +kernel)
set_option maxRecDepth 20000 in
theorem gX6_length_X4_has : GoodIn wsX6_length (wsV RX6 158 RX4 yX4_has wsX4_has) := goodIn_app (goodIn_of _ (by decide +kernel)) ggX6_length_X4_has
set_option maxRecDepth 20000 in
theorem ggX6_depth_X4_has : GoodIn wsX6_depth wsX4_has := goodIn_r _ [10, 11, 33, 34, 35, 36, 37, 38, 39, 40, 41] (by decide +kernel) (by decide +kernel)
set_option maxRecDepth 20000 in
theorem gX6_depth_X4_has : GoodIn wsX6_depth (wsV RX6 158 RX4 yX4_has wsX4_has) := goodIn_app (goodIn_of _ (by decide +kernel)) ggX6_depth_X4_has
set_option maxRecDepth 20000 in
theorem ggX6_isOverdue_X4_has : GoodIn wsX6_isOverdue wsX4_has := goodIn_r _ [9, 10, 39, 40, 41, 42, 43, 44, 45, 46, 47] (by decide +kernel) (by decide +kernel)
set_option maxRecDepth 20000 in
theorem gX6_isOverdue_X4_has : GoodIn wsX6_isOverdue (wsV RX6 158 RX4 yX4_has wsX4_has) := goodIn_app (goodIn_of _ (by decide +kernel)) ggX6_isOverdue_X4_has
set_option maxRecDepth 20000 in
theorem ggX6_isOverdue_X4_excess : GoodIn wsX6_isOverdue wsX4_excess := goodIn_ca (goodIn_r _ [14, 15, 16, 17, 6, 7, 8, 9, 10, 39, 40, 41, 42, 43, 44, 45, 46, 47] (by decide +kernel) (by decide +kernel)) (goodIn_sub (fun _ h => List.mem_cons_of_mem _ (List.mem_append_right _ h)) (by decide +kernel))
set_option maxRecDepth 20000 in
theorem gX6_isOverdue_X4_excess : GoodIn wsX6_isOverdue (wsV RX6 179 RX4 yX4_excess wsX4_excess) := goodIn_app (goodIn_of _ (by decide +kernel)) ggX6_isOverdue_X4_excess
set_option maxRecDepth 20000 in
theorem ggX6_isSalted_X4_has : GoodIn wsX6_isSalted wsX4_has := goodIn_r _ [10, 11, 39, 40, 41, 42, 43, 44, 45, 46, 47] (by decide +kernel) (by decide +kernel)
set_option maxRecDepth 20000 in
theorem gX6_isSalted_X4_has : GoodIn wsX6_isSalted (wsV RX6 158 RX4 yX4_has wsX4_has) := goodIn_app (goodIn_of _ (by decide +kernel)) ggX6_isSalted_X4_has
set_option maxRecDepth 20000 in
theorem ggX6_isSalted_X4_saltLeft : GoodIn wsX6_isSalted wsX4_saltLeft := goodIn_ca (goodIn_r _ [15, 16, 17, 7, 8, 9, 10, 11, 39, 40, 41, 42, 43, 44, 45, 46, 47] (by decide +kernel) (by decide +kernel)) (goodIn_sub (fun _ h => List.mem_cons_of_mem _ (List.mem_append_right _ h)) (by decide +kernel))
set_option maxRecDepth 20000 in
theorem gX6_isSalted_X4_saltLeft : GoodIn wsX6_isSalted (wsV RX6 185 RX4 yX4_saltLeft wsX4_saltLeft) := goodIn_app (goodIn_of _ (by decide +kernel)) ggX6_isSalted_X4_saltLeft
set_option maxRecDepth 20000 in
theorem ggX6_saltMinutes_X4_has : GoodIn wsX6_saltMinutes wsX4_has := goodIn_r _ [12, 13, 41, 42, 43, 44, 45, 46, 47, 48, 49] (by decide +kernel) (by decide +kernel)
set_option maxRecDepth 20000 in
theorem gX6_saltMinutes_X4_has : GoodIn wsX6_saltMinutes (wsV RX6 158 RX4 yX4_has wsX4_has) := goodIn_app (goodIn_of _ (by decide +kernel)) ggX6_saltMinutes_X4_has
set_option maxRecDepth 20000 in
theorem ggX6_saltMinutes_X4_saltLeft : GoodIn wsX6_saltMinutes wsX4_saltLeft := goodIn_ca (goodIn_r _ [17, 18, 19, 9, 10, 11, 12, 13, 41, 42, 43, 44, 45, 46, 47, 48, 49] (by decide +kernel) (by decide +kernel)) (goodIn_sub (fun _ h => List.mem_cons_of_mem _ (List.mem_append_right _ h)) (by decide +kernel))
set_option maxRecDepth 20000 in
theorem gX6_saltMinutes_X4_saltLeft : GoodIn wsX6_saltMinutes (wsV RX6 185 RX4 yX4_saltLeft wsX4_saltLeft) := goodIn_app (goodIn_of _ (by decide +kernel)) ggX6_saltMinutes_X4_saltLeft
set_option maxRecDepth 20000 in
theorem ggX6_complaints_X4_has : GoodIn wsX6_complaints wsX4_has := goodIn_r _ [10, 11, 33, 34, 35, 36, 37, 38, 39, 40, 41] (by decide +kernel) (by decide +kernel)
set_option maxRecDepth 20000 in
theorem gX6_complaints_X4_has : GoodIn wsX6_complaints (wsV RX6 158 RX4 yX4_has wsX4_has) := goodIn_app (goodIn_of _ (by decide +kernel)) ggX6_complaints_X4_has
set_option maxRecDepth 20000 in
theorem ggX6_distance_X6_isJunction : GoodIn wsX6_distance wsX6_isJunction := goodIn_r _ [12] (by decide +kernel) (by decide +kernel)
set_option maxRecDepth 20000 in
theorem gX6_distance_X6_isJunction : GoodIn wsX6_distance (va_wsS RX6 193 yX6_isJunction wsX6_isJunction) := goodIn_app (goodIn_of _ (by decide +kernel)) ggX6_distance_X6_isJunction
set_option maxRecDepth 20000 in
theorem ggX6_distance_X1_measureFrom : GoodIn wsX6_distance wsX1_measureFrom := goodIn_ca (goodIn_r _ [17, 18, 19, 20, 21, 22, 23, 24, 25, 26, 27, 28, 29, 16, 30, 10, 11, 12, 31, 32, 33, 34, 35, 36, 37, 63, 64, 65, 66, 67, 68, 69, 70, 71, 72, 73, 74] (by decide +kernel) (by decide +kernel)) (goodIn_sub (fun _ h => List.mem_cons_of_mem _ (List.mem_append_right _ h)) (by decide +kernel))
set_option maxRecDepth 20000 in
theorem gX6_distance_X1_measureFrom : GoodIn wsX6_distance (wsV RX6 196 RX1 yX1_measureFrom wsX1_measureFrom) := goodIn_app (goodIn_of _ (by decide +kernel)) ggX6_distance_X1_measureFrom
set_option maxRecDepth 20000 in
theorem ggX6_distance_X1_reachOf : GoodIn wsX6_distance wsX1_reachOf := goodIn_ca (goodIn_r _ [41, 18, 19, 10, 11, 12, 63, 64, 65] (by decide +kernel) (by decide +kernel)) (goodIn_sub (fun _ h => List.mem_cons_of_mem _ (List.mem_append_right _ h)) (by decide +kernel))
set_option maxRecDepth 20000 in
theorem gX6_distance_X1_reachOf : GoodIn wsX6_distance (wsV RX6 200 RX1 yX1_reachOf wsX1_reachOf) := goodIn_app (goodIn_of _ (by decide +kernel)) ggX6_distance_X1_reachOf
set_option maxRecDepth 20000 in
theorem ggX6_distanceByJunctions_X6_isJunction : GoodIn wsX6_distanceByJunctions wsX6_isJunction := goodIn_r _ [12] (by decide +kernel) (by decide +kernel)
set_option maxRecDepth 20000 in
theorem gX6_distanceByJunctions_X6_isJunction : GoodIn wsX6_distanceByJunctions (va_wsS RX6 193 yX6_isJunction wsX6_isJunction) := goodIn_app (goodIn_of _ (by decide +kernel)) ggX6_distanceByJunctions_X6_isJunction
set_option maxRecDepth 20000 in
theorem ggX6_distanceByJunctions_X1_improveAll : GoodIn wsX6_distanceByJunctions wsX1_improveAll := goodIn_ca (goodIn_r _ [17, 18, 19, 20, 21, 22, 23, 24, 25, 26, 16, 27, 10, 11, 12, 28, 29, 30, 31, 32, 33, 34, 35, 58, 59, 60, 61, 62, 63, 64, 65, 66, 67, 68, 69] (by decide +kernel) (by decide +kernel)) (goodIn_sub (fun _ h => List.mem_cons_of_mem _ (List.mem_append_right _ h)) (by decide +kernel))
set_option maxRecDepth 20000 in
theorem gX6_distanceByJunctions_X1_improveAll : GoodIn wsX6_distanceByJunctions (wsV RX6 206 RX1 yX1_improveAll wsX1_improveAll) := goodIn_app (goodIn_of _ (by decide +kernel)) ggX6_distanceByJunctions_X1_improveAll
set_option maxRecDepth 20000 in
theorem ggX6_distanceByJunctions_X1_between : GoodIn wsX6_distanceByJunctions wsX1_between := goodIn_ca (goodIn_r _ [35, 18, 19, 10, 11, 12, 58, 59, 60] (by decide +kernel) (by decide +kernel)) (goodIn_sub (fun _ h => List.mem_cons_of_mem _ (List.mem_append_right _ h)) (by decide +kernel))
set_option maxRecDepth 20000 in
theorem gX6_distanceByJunctions_X1_between : GoodIn wsX6_distanceByJunctions (wsV RX6 210 RX1 yX1_between wsX1_between) := goodIn_app (goodIn_of _ (by decide +kernel)) ggX6_distanceByJunctions_X1_between
set_option maxRecDepth 20000 in
theorem ggX6_streetByUrgency_X4_atRank : GoodIn wsX6_streetByUrgency wsX4_atRank := goodIn_ca (goodIn_r _ [9, 10, 11, 12, 13, 8, 14, 15, 16, 17, 18, 19, 20, 21, 22, 23, 24, 25, 26, 27, 28, 50, 51, 52, 53, 54, 55, 56, 57, 58] (by decide +kernel) (by decide +kernel)) (goodIn_sub (fun _ h => List.mem_cons_of_mem _ (List.mem_append_right _ h)) (by decide +kernel))
set_option maxRecDepth 20000 in
theorem gX6_streetByUrgency_X4_atRank : GoodIn wsX6_streetByUrgency (wsV RX6 213 RX4 yX4_atRank wsX4_atRank) := goodIn_app (goodIn_of _ (by decide +kernel)) ggX6_streetByUrgency_X4_atRank
set_option maxRecDepth 20000 in
theorem ggX6_isBusy_X2_has : GoodIn wsX6_isBusy wsX2_has := goodIn_r _ [10, 11, 33, 34, 35, 36, 37, 38] (by decide +kernel) (by decide +kernel)
set_option maxRecDepth 20000 in
theorem gX6_isBusy_X2_has : GoodIn wsX6_isBusy (wsV RX6 225 RX2 yX2_has wsX2_has) := goodIn_app (goodIn_of _ (by decide +kernel)) ggX6_isBusy_X2_has
set_option maxRecDepth 20000 in
theorem ggX6_junction_X2_has : GoodIn wsX6_junction wsX2_has := goodIn_r _ [10, 11, 33, 34, 35, 36, 37, 38] (by decide +kernel) (by decide +kernel)
set_option maxRecDepth 20000 in
theorem gX6_junction_X2_has : GoodIn wsX6_junction (wsV RX6 225 RX2 yX2_has wsX2_has) := goodIn_app (goodIn_of _ (by decide +kernel)) ggX6_junction_X2_has
set_option maxRecDepth 20000 in
theorem ggX6_currentStreet_X2_has : GoodIn wsX6_currentStreet wsX2_has := goodIn_r _ [13, 14, 36, 37, 38, 39, 40, 41] (by decide +kernel) (by decide +kernel)
set_option maxRecDepth 20000 in
theorem gX6_currentStreet_X2_has : GoodIn wsX6_currentStreet (wsV RX6 225 RX2 yX2_has wsX2_has) := goodIn_app (goodIn_of _ (by decide +kernel)) ggX6_currentStreet_X2_has
set_option maxRecDepth 20000 in
theorem ggX6_busyMinutes_X2_has : GoodIn wsX6_busyMinutes wsX2_has := goodIn_r _ [10, 11, 33, 34, 35, 36, 37, 38] (by decide +kernel) (by decide +kernel)
set_option maxRecDepth 20000 in
theorem gX6_busyMinutes_X2_has : GoodIn wsX6_busyMinutes (wsV RX6 225 RX2 yX2_has wsX2_has) := goodIn_app (goodIn_of _ (by decide +kernel)) ggX6_busyMinutes_X2_has
set_option maxRecDepth 20000 in
theorem ggX6_queueLength_X2_has : GoodIn wsX6_queueLength wsX2_has := goodIn_r _ [10, 11, 33, 34, 35, 36, 37, 38] (by decide +kernel) (by decide +kernel)
set_option maxRecDepth 20000 in
theorem gX6_queueLength_X2_has : GoodIn wsX6_queueLength (wsV RX6 225 RX2 yX2_has wsX2_has) := goodIn_app (goodIn_of _ (by decide +kernel)) ggX6_queueLength_X2_has
set_option maxRecDepth 20000 in
theorem ggX6_queuedStreet_X2_has : GoodIn wsX6_queuedStreet wsX2_has := goodIn_r _ [11, 12, 41, 42, 43, 44, 45, 46] (by decide +kernel) (by decide +kernel)
set_option maxRecDepth 20000 in
theorem gX6_queuedStreet_X2_has : GoodIn wsX6_queuedStreet (wsV RX6 225 RX2 yX2_has wsX2_has) := goodIn_app (goodIn_of _ (by decide +kernel)) ggX6_queuedStreet_X2_has
set_option maxRecDepth 20000 in
theorem ggX6_queuedStreet_X2_waitingAt : GoodIn wsX6_queuedStreet wsX2_waitingAt := goodIn_ca (goodIn_r _ [16, 17, 18, 19, 8, 9, 10, 11, 12, 41, 42, 43, 44, 45, 46] (by decide +kernel) (by decide +kernel)) (goodIn_sub (fun _ h => List.mem_cons_of_mem _ (List.mem_append_right _ h)) (by decide +kernel))
set_option maxRecDepth 20000 in
theorem gX6_queuedStreet_X2_waitingAt : GoodIn wsX6_queuedStreet (wsV RX6 240 RX2 yX2_waitingAt wsX2_waitingAt) := goodIn_app (goodIn_of _ (by decide +kernel)) ggX6_queuedStreet_X2_waitingAt
set_option maxRecDepth 20000 in
theorem ggX6_orderMinutes_X2_has : GoodIn wsX6_orderMinutes wsX2_has := goodIn_r _ [13, 14, 89, 90, 91, 92, 93, 94] (by decide +kernel) (by decide +kernel)
set_option maxRecDepth 20000 in
theorem gX6_orderMinutes_X2_has : GoodIn wsX6_orderMinutes (wsV RX6 225 RX2 yX2_has wsX2_has) := goodIn_app (goodIn_of _ (by decide +kernel)) ggX6_orderMinutes_X2_has
set_option maxRecDepth 20000 in
theorem ggX6_orderMinutes_X4_has : GoodIn wsX6_orderMinutes wsX4_has := goodIn_r _ [19, 20, 95, 96, 97, 98, 99, 100, 101, 102, 103] (by decide +kernel) (by decide +kernel)
set_option maxRecDepth 20000 in
theorem gX6_orderMinutes_X4_has : GoodIn wsX6_orderMinutes (wsV RX6 158 RX4 yX4_has wsX4_has) := goodIn_app (goodIn_of _ (by decide +kernel)) ggX6_orderMinutes_X4_has
set_option maxRecDepth 20000 in
theorem ggX6_orderMinutes_X5_minutesFor : GoodIn wsX6_orderMinutes wsX5_minutesFor := goodIn_ca (goodIn_r _ [25, 26, 27, 28, 29, 30, 31, 32, 33, 34, 35, 36, 37, 38, 10, 11, 12, 13, 14, 39, 16, 17, 18, 19, 20, 40, 41, 42, 43, 44, 45, 46, 47, 48, 49, 50, 51, 52, 53, 54, 55, 56, 57, 58, 59, 60, 61, 62, 63, 64, 65, 66, 67, 78, 79, 80, 81, 82, 83, 84, 85, 86, 87, 88, 89, 90, 91, 92, 93, 94, 95, 96, 97, 98, 99, 100, 101, 102, 103, 104, 105, 106] (by decide +kernel) (by decide +kernel)) (goodIn_sub (fun _ h => List.mem_cons_of_mem _ (List.mem_append_right _ h)) (by decide +kernel))
set_option maxRecDepth 20000 in
theorem gX6_orderMinutes_X5_minutesFor : GoodIn wsX6_orderMinutes (wsV RX6 245 RX5 yX5_minutesFor wsX5_minutesFor) := goodIn_app (goodIn_of _ (by decide +kernel)) ggX6_orderMinutes_X5_minutesFor
set_option maxRecDepth 20000 in
theorem ggX6_minutesUntilCleared_X4_has : GoodIn wsX6_minutesUntilCleared wsX4_has := goodIn_r _ [11, 12, 196, 197, 198, 199, 200, 201, 202, 203, 204] (by decide +kernel) (by decide +kernel)
set_option maxRecDepth 20000 in
theorem gX6_minutesUntilCleared_X4_has : GoodIn wsX6_minutesUntilCleared (wsV RX6 158 RX4 yX4_has wsX4_has) := goodIn_app (goodIn_of _ (by decide +kernel)) ggX6_minutesUntilCleared_X4_has
set_option maxRecDepth 20000 in
theorem ggX6_minutesUntilCleared_X6_foretellClearing : GoodIn wsX6_minutesUntilCleared wsX6_foretellClearing := goodIn_ca (goodIn_r _ [17, 18, 5, 6, 19, 20, 21, 22, 23, 24, 25, 26, 27, 28, 29, 30, 31, 32, 33, 34, 35, 36, 10, 37, 38, 39, 40, 41, 42, 43, 44, 45, 46, 47, 48, 49, 12, 50, 51, 52, 53, 54, 55, 56, 57, 58, 59, 60, 61, 62, 63, 64, 65, 66, 8, 9, 11, 67, 68, 69, 70, 71, 72, 73, 74, 75, 76, 77, 78, 79, 80, 81, 82, 83, 84, 85, 86, 87, 88, 89, 90, 91, 92, 93, 94, 95, 96, 97, 98, 99, 100, 101, 102, 103, 104, 105, 106, 107, 108, 109, 110, 111, 112, 113, 114, 115, 116, 117, 118, 119, 120, 121, 122, 123, 16, 124, 125, 126, 127, 128, 129, 130, 131, 132, 133, 134, 135, 136, 137, 138, 139, 140, 141, 142, 143, 144, 145, 146, 147, 148, 149, 150, 151, 152, 153, 154, 155, 156, 157, 158, 159, 160, 161, 162, 163, 164, 165, 166, 167, 168, 169, 170, 171, 172, 173, 174, 175, 176, 177, 178, 179, 180, 181, 182, 183, 184, 185, 186, 187, 188, 189, 190, 191, 192, 193, 194, 195, 196, 197, 198, 199, 200, 201, 202, 203, 204, 205, 206, 207, 208, 209, 210, 211, 212, 213] (by decide +kernel) (by decide +kernel)) (goodIn_sub (fun _ h => List.mem_cons_of_mem _ (List.mem_append_right _ h)) (by decide +kernel))
set_option maxRecDepth 20000 in
theorem gX6_minutesUntilCleared_X6_foretellClearing : GoodIn wsX6_minutesUntilCleared (wsV RX6 250 RX6 yX6_foretellClearing wsX6_foretellClearing) := goodIn_app (goodIn_of _ (by decide +kernel)) ggX6_minutesUntilCleared_X6_foretellClearing
set_option maxRecDepth 20000 in
theorem ggX6_foretellClearing_X5_copyFrom : GoodIn wsX6_foretellClearing wsX5_copyFrom := goodIn_r _ [8, 9, 10, 11, 12, 13, 14, 15, 16, 17, 18, 19, 20, 21, 22, 23, 24, 25, 26, 27, 28, 29, 30, 31, 32, 33, 34, 35, 36, 37, 38, 39, 40, 41, 42, 43, 44, 45, 46, 47, 48, 176, 177, 178, 179, 180, 181, 182, 183, 184, 185, 186, 187, 188, 189, 190, 191, 192, 193, 194, 195, 196, 197, 198, 199, 200, 201] (by decide +kernel) (by decide +kernel)
set_option maxRecDepth 20000 in
theorem gX6_foretellClearing_X5_copyFrom : GoodIn wsX6_foretellClearing (wsV RX6 255 RX5 yX5_copyFrom wsX5_copyFrom) := goodIn_app (goodIn_of _ (by decide +kernel)) ggX6_foretellClearing_X5_copyFrom
set_option maxRecDepth 20000 in
theorem ggX6_foretellClearing_X4_timesCleared : GoodIn wsX6_foretellClearing wsX4_timesCleared := goodIn_ca (goodIn_r _ [52, 35, 53, 54, 55, 22, 56, 36, 187, 188, 189, 190, 191, 192, 193, 194, 195] (by decide +kernel) (by decide +kernel)) (goodIn_sub (fun _ h => List.mem_cons_of_mem _ (List.mem_append_right _ h)) (by decide +kernel))
set_option maxRecDepth 20000 in
theorem gX6_foretellClearing_X4_timesCleared : GoodIn wsX6_foretellClearing (wsV RX6 258 RX4 yX4_timesCleared wsX4_timesCleared) := goodIn_app (goodIn_of _ (by decide +kernel)) ggX6_foretellClearing_X4_timesCleared
set_option maxRecDepth 20000 in
theorem ggX6_foretellClearing_X5_passMinutes : GoodIn wsX6_foretellClearing wsX5_passMinutes := goodIn_ca (goodIn_r _ [60, 15, 11, 10, 61, 62, 63, 64, 40, 65, 45, 46, 66, 67, 68, 69, 48, 70, 71, 72, 7, 73, 74, 9, 17, 75, 76, 77, 78, 79, 80, 81, 47, 82, 83, 84, 85, 86, 87, 88, 89, 90, 91, 92, 93, 94, 95, 96, 97, 54, 55, 22, 56, 36, 98, 99, 100, 101, 102, 103, 104, 105, 106, 107, 108, 109, 110, 111, 112, 113, 114, 115, 116, 117, 118, 119, 24, 29, 120, 121, 122, 123, 124, 125, 126, 127, 44, 42, 128, 129, 130, 131, 132, 133, 134, 135, 16, 136, 137, 138, 139, 140, 141, 13, 14, 18, 142, 143, 144, 145, 32, 146, 147, 148, 149, 150, 33, 151, 152, 153, 154, 155, 156, 157, 53, 158, 159, 160, 161, 34, 162, 163, 164, 165, 30, 176, 177, 178, 179, 180, 181, 182, 183, 184, 185, 186, 196, 197, 198, 199, 200, 201, 187, 188, 189, 190, 191, 192, 193, 194, 195, 202, 203, 204] (by decide +kernel) (by decide +kernel)) (goodIn_sub (fun _ h => List.mem_cons_of_mem _ (List.mem_append_right _ h)) (by decide +kernel))
set_option maxRecDepth 20000 in
theorem gX6_foretellClearing_X5_passMinutes : GoodIn wsX6_foretellClearing (wsV RX6 144 RX5 yX5_passMinutes wsX5_passMinutes) := goodIn_app (goodIn_of _ (by decide +kernel)) ggX6_foretellClearing_X5_passMinutes
set_option maxRecDepth 20000 in
theorem ggX6_depthAfter_X4_has : GoodIn wsX6_depthAfter wsX4_has := goodIn_r _ [13, 14, 189, 190, 191, 192, 193, 194, 195, 196, 197] (by decide +kernel) (by decide +kernel)
set_option maxRecDepth 20000 in
theorem gX6_depthAfter_X4_has : GoodIn wsX6_depthAfter (wsV RX6 158 RX4 yX4_has wsX4_has) := goodIn_app (goodIn_of _ (by decide +kernel)) ggX6_depthAfter_X4_has
set_option maxRecDepth 20000 in
theorem ggX6_depthAfter_X5_copyFrom : GoodIn wsX6_depthAfter wsX5_copyFrom := goodIn_r _ [19, 20, 21, 22, 23, 24, 25, 26, 27, 28, 29, 30, 31, 32, 12, 33, 34, 35, 36, 37, 38, 39, 40, 41, 42, 43, 44, 45, 14, 46, 47, 48, 49, 50, 51, 52, 53, 54, 55, 56, 57, 178, 179, 180, 181, 182, 183, 184, 185, 186, 187, 188, 189, 190, 191, 192, 193, 194, 195, 196, 197, 198, 199, 200, 201, 202, 203] (by decide +kernel) (by decide +kernel)
set_option maxRecDepth 20000 in
theorem gX6_depthAfter_X5_copyFrom : GoodIn wsX6_depthAfter (wsV RX6 255 RX5 yX5_copyFrom wsX5_copyFrom) := goodIn_app (goodIn_of _ (by decide +kernel)) ggX6_depthAfter_X5_copyFrom
set_option maxRecDepth 20000 in
theorem ggX6_depthAfter_X5_passMinutes : GoodIn wsX6_depthAfter wsX5_passMinutes := goodIn_ca (goodIn_r _ [61, 26, 22, 21, 62, 63, 64, 65, 49, 66, 54, 55, 67, 68, 69, 70, 57, 71, 72, 73, 18, 74, 75, 20, 28, 76, 77, 78, 79, 80, 81, 82, 56, 83, 84, 85, 86, 87, 88, 89, 90, 91, 92, 93, 94, 95, 96, 97, 98, 10, 11, 12, 13, 14, 99, 100, 101, 102, 103, 104, 105, 106, 107, 108, 109, 110, 111, 112, 113, 114, 115, 116, 117, 118, 119, 120, 34, 39, 121, 122, 123, 124, 125, 126, 127, 128, 53, 51, 129, 130, 131, 132, 133, 134, 135, 136, 27, 137, 138, 139, 140, 141, 142, 24, 25, 29, 143, 144, 145, 146, 42, 147, 148, 149, 150, 151, 43, 152, 153, 154, 155, 156, 157, 158, 159, 160, 161, 162, 163, 44, 164, 165, 166, 167, 40, 178, 179, 180, 181, 182, 183, 184, 185, 186, 187, 188, 198, 199, 200, 201, 202, 203, 189, 190, 191, 192, 193, 194, 195, 196, 197, 204, 205, 206] (by decide +kernel) (by decide +kernel)) (goodIn_sub (fun _ h => List.mem_cons_of_mem _ (List.mem_append_right _ h)) (by decide +kernel))
set_option maxRecDepth 20000 in
theorem gX6_depthAfter_X5_passMinutes : GoodIn wsX6_depthAfter (wsV RX6 144 RX5 yX5_passMinutes wsX5_passMinutes) := goodIn_app (goodIn_of _ (by decide +kernel)) ggX6_depthAfter_X5_passMinutes
set_option maxRecDepth 20000 in
theorem ggX6_meanDepth_X4_snowSum : GoodIn wsX6_meanDepth wsX4_snowSum := goodIn_ca (goodIn_r _ [10, 11, 12, 34, 35, 36, 37, 38, 39, 40, 41, 42] (by decide +kernel) (by decide +kernel)) (goodIn_sub (fun _ h => List.mem_cons_of_mem _ (List.mem_append_right _ h)) (by decide +kernel))
set_option maxRecDepth 20000 in
theorem gX6_meanDepth_X4_snowSum : GoodIn wsX6_meanDepth (wsV RX6 288 RX4 yX4_snowSum wsX4_snowSum) := goodIn_app (goodIn_of _ (by decide +kernel)) ggX6_meanDepth_X4_snowSum
set_option maxRecDepth 20000 in
theorem ggX6_saltedShare_X4_saltedCount : GoodIn wsX6_saltedShare wsX4_saltedCount := goodIn_ca (goodIn_r _ [11, 12, 13, 14, 15, 10, 16, 17, 18, 19, 20, 21, 43, 44, 45, 46, 47, 48, 49, 50, 51] (by decide +kernel) (by decide +kernel)) (goodIn_sub (fun _ h => List.mem_cons_of_mem _ (List.mem_append_right _ h)) (by decide +kernel))
set_option maxRecDepth 20000 in
theorem gX6_saltedShare_X4_saltedCount : GoodIn wsX6_saltedShare (wsV RX6 292 RX4 yX4_saltedCount wsX4_saltedCount) := goodIn_app (goodIn_of _ (by decide +kernel)) ggX6_saltedShare_X4_saltedCount
set_option maxRecDepth 20000 in
theorem ggX6_isConsistent_X6_distancesAgree : GoodIn wsX6_isConsistent wsX6_distancesAgree := goodIn_ca (goodIn_r _ [8, 9, 1, 2, 10, 11, 12, 13, 14, 15, 16, 17, 18, 19, 20, 21, 22, 23, 24, 25, 7, 26, 27, 28, 29, 30, 31, 32, 33, 34, 35, 36, 37, 38, 39, 40, 41, 42, 43, 44, 45, 46, 47, 48, 49, 50, 51, 52, 53, 54, 55, 56, 57, 58, 59, 60, 72, 73, 74, 75, 76, 77, 78, 79, 80, 81, 82, 83, 84, 85, 86, 87, 88, 89, 90, 91, 92, 93, 94, 95, 96, 97, 98, 99, 100, 101, 102, 103, 104] (by decide +kernel) (by decide +kernel)) (goodIn_sub (fun _ h => List.mem_cons_of_mem _ (List.mem_append_right _ h)) (by decide +kernel))
set_option maxRecDepth 20000 in
theorem gX6_isConsistent_X6_distancesAgree : GoodIn wsX6_isConsistent (wsV RX6 295 RX6 yX6_distancesAgree wsX6_distancesAgree) := goodIn_app (goodIn_of _ (by decide +kernel)) ggX6_isConsistent_X6_distancesAgree
set_option maxRecDepth 20000 in
theorem ggX6_isConsistent_X4_complaintSum : GoodIn wsX6_isConsistent wsX4_complaintSum := goodIn_ca (goodIn_r _ [64, 65, 66, 96, 97, 98, 99, 100, 101, 102, 103, 104] (by decide +kernel) (by decide +kernel)) (goodIn_sub (fun _ h => List.mem_cons_of_mem _ (List.mem_append_right _ h)) (by decide +kernel))
set_option maxRecDepth 20000 in
theorem gX6_isConsistent_X4_complaintSum : GoodIn wsX6_isConsistent (wsV RX6 299 RX4 yX4_complaintSum wsX4_complaintSum) := goodIn_app (goodIn_of _ (by decide +kernel)) ggX6_isConsistent_X4_complaintSum
set_option maxRecDepth 20000 in
theorem ggX6_isConsistent_X4_depthsAllowed : GoodIn wsX6_isConsistent wsX4_depthsAllowed := goodIn_ca (goodIn_r _ [70, 65, 71, 96, 97, 98, 99, 100, 101, 102, 103, 104] (by decide +kernel) (by decide +kernel)) (goodIn_sub (fun _ h => List.mem_cons_of_mem _ (List.mem_append_right _ h)) (by decide +kernel))
set_option maxRecDepth 20000 in
theorem gX6_isConsistent_X4_depthsAllowed : GoodIn wsX6_isConsistent (wsV RX6 302 RX4 yX4_depthsAllowed wsX4_depthsAllowed) := goodIn_app (goodIn_of _ (by decide +kernel)) ggX6_isConsistent_X4_depthsAllowed
set_option maxRecDepth 20000 in
theorem ggX6_distancesAgree_X1_improveAll : GoodIn wsX6_distancesAgree wsX1_improveAll := goodIn_ca (goodIn_r _ [8, 9, 10, 11, 12, 13, 14, 15, 16, 17, 7, 18, 19, 20, 21, 22, 23, 24, 25, 26, 27, 28, 29, 77, 78, 79, 80, 81, 82, 83, 84, 85, 86, 87, 88] (by decide +kernel) (by decide +kernel)) (goodIn_sub (fun _ h => List.mem_cons_of_mem _ (List.mem_append_right _ h)) (by decide +kernel))
set_option maxRecDepth 20000 in
theorem gX6_distancesAgree_X1_improveAll : GoodIn wsX6_distancesAgree (wsV RX6 206 RX1 yX1_improveAll wsX1_improveAll) := goodIn_app (goodIn_of _ (by decide +kernel)) ggX6_distancesAgree_X1_improveAll
set_option maxRecDepth 20000 in
theorem ggX6_distancesAgree_X1_measureFrom : GoodIn wsX6_distancesAgree wsX1_measureFrom := goodIn_ca (goodIn_r _ [33, 34, 10, 35, 11, 14, 36, 37, 38, 39, 40, 41, 42, 7, 43, 19, 20, 21, 44, 45, 46, 47, 48, 49, 50, 77, 78, 79, 80, 81, 82, 83, 84, 85, 86, 87, 88] (by decide +kernel) (by decide +kernel)) (goodIn_sub (fun _ h => List.mem_cons_of_mem _ (List.mem_append_right _ h)) (by decide +kernel))
set_option maxRecDepth 20000 in
theorem gX6_distancesAgree_X1_measureFrom : GoodIn wsX6_distancesAgree (wsV RX6 196 RX1 yX1_measureFrom wsX1_measureFrom) := goodIn_app (goodIn_of _ (by decide +kernel)) ggX6_distancesAgree_X1_measureFrom
set_option maxRecDepth 20000 in
theorem ggX6_distancesAgree_X1_reachOf : GoodIn wsX6_distancesAgree wsX1_reachOf := goodIn_ca (goodIn_r _ [54, 34, 10, 19, 20, 21, 77, 78, 79] (by decide +kernel) (by decide +kernel)) (goodIn_sub (fun _ h => List.mem_cons_of_mem _ (List.mem_append_right _ h)) (by decide +kernel))
set_option maxRecDepth 20000 in
theorem gX6_distancesAgree_X1_reachOf : GoodIn wsX6_distancesAgree (wsV RX6 200 RX1 yX1_reachOf wsX1_reachOf) := goodIn_app (goodIn_of _ (by decide +kernel)) ggX6_distancesAgree_X1_reachOf
set_option maxRecDepth 20000 in
theorem ggX6_distancesAgree_X1_between : GoodIn wsX6_distancesAgree wsX1_between := goodIn_ca (goodIn_r _ [29, 9, 10, 19, 20, 21, 77, 78, 79] (by decide +kernel) (by decide +kernel)) (goodIn_sub (fun _ h => List.mem_cons_of_mem _ (List.mem_append_right _ h)) (by decide +kernel))
set_option maxRecDepth 20000 in
theorem gX6_distancesAgree_X1_between : GoodIn wsX6_distancesAgree (wsV RX6 210 RX1 yX1_between wsX1_between) := goodIn_app (goodIn_of _ (by decide +kernel)) ggX6_distancesAgree_X1_between
set_option maxRecDepth 20000 in
theorem ggX6_renderStreet_X4_has : GoodIn wsX6_renderStreet wsX4_has := goodIn_r _ [15, 16, 277, 278, 279, 280, 281, 282, 283, 284, 285] (by decide +kernel) (by decide +kernel)
set_option maxRecDepth 20000 in
theorem gX6_renderStreet_X4_has : GoodIn wsX6_renderStreet (wsV RX6 158 RX4 yX4_has wsX4_has) := goodIn_app (goodIn_of _ (by decide +kernel)) ggX6_renderStreet_X4_has
set_option maxRecDepth 20000 in
theorem ggX6_renderStreet_J4_setLength_d00df : GoodIn wsX6_renderStreet wsJ4_setLength_d00df := goodIn_r _ [21, 22, 23, 24, 25, 26, 27, 28, 29, 30, 31, 32, 33, 34, 35, 36, 37, 38, 39, 40, 41, 42, 43, 44, 45, 46, 47, 48, 49, 50, 51, 52, 53, 54, 55, 56, 57, 58, 59, 60, 61, 62, 63, 64, 65, 66, 67, 68, 69, 70, 71, 72, 73, 74, 75, 76, 77, 78, 79, 80, 81, 82, 83, 84, 85, 86, 87, 88, 89, 90, 91, 92, 93, 20, 94, 95, 96, 97, 98, 99, 100, 101, 286, 287, 288, 289, 290, 291, 292, 293, 294, 295, 296, 297, 298, 299, 300, 301] (by decide +kernel) (by decide +kernel)
set_option maxRecDepth 20000 in
theorem gX6_renderStreet_J4_setLength_d00df : GoodIn wsX6_renderStreet (wsV RX6 305 RJ4 yJ4_setLength_d00df wsJ4_setLength_d00df) := goodIn_app (goodIn_of _ (by decide +kernel)) ggX6_renderStreet_J4_setLength_d00df
set_option maxRecDepth 20000 in
theorem ggX6_renderStreet_J4_append_bf812 : GoodIn wsX6_renderStreet wsJ4_append_bf812 := goodIn_r _ [105, 106, 107, 24, 108, 26, 109, 31, 32, 110, 111, 112, 113, 34, 35, 36, 37, 38, 39, 40, 41, 42, 43, 44, 45, 46, 47, 48, 49, 50, 51, 52, 53, 54, 55, 56, 57, 58, 59, 60, 61, 62, 63, 64, 65, 66, 67, 68, 69, 70, 71, 72, 73, 74, 75, 76, 77, 78, 79, 80, 81, 114, 115, 116, 117, 118, 119, 120, 99, 121, 122, 123, 124, 125, 126, 127, 128, 129, 130, 131, 132, 133, 134, 135, 136, 137, 138, 139, 140, 141, 142, 143, 144, 145, 146, 147, 292, 293, 294, 295] (by decide +kernel) (by decide +kernel)
set_option maxRecDepth 20000 in
theorem gX6_renderStreet_J4_append_bf812 : GoodIn wsX6_renderStreet (wsV RX6 309 RJ4 yJ4_append_bf812 wsJ4_append_bf812) := goodIn_app (goodIn_of _ (by decide +kernel)) ggX6_renderStreet_J4_append_bf812
set_option maxRecDepth 20000 in
theorem ggX6_renderStreet_J4_append_cf468 : GoodIn wsX6_renderStreet wsJ4_append_cf468 := goodIn_r _ [151, 152, 153, 24, 154, 26, 155, 31, 32, 34, 35, 36, 37, 38, 39, 40, 41, 42, 43, 44, 45, 46, 47, 48, 49, 50, 51, 52, 53, 54, 55, 56, 57, 58, 59, 60, 61, 62, 63, 64, 65, 66, 67, 68, 69, 70, 71, 72, 73, 74, 75, 76, 77, 78, 79, 80, 81, 156, 157, 84, 158, 159, 160, 161, 162, 163, 164, 165, 99, 166, 167, 168, 169, 170, 171, 172, 173, 174, 175, 176, 177, 178, 179, 126, 127, 128, 180, 181, 131, 182, 133, 183, 184, 136, 185, 143, 144, 145, 122, 146, 147, 186, 187, 188, 189, 190, 191, 192, 193, 194, 195, 196, 197, 292, 293, 294, 295] (by decide +kernel) (by decide +kernel)
set_option maxRecDepth 20000 in
theorem gX6_renderStreet_J4_append_cf468 : GoodIn wsX6_renderStreet (wsV RX6 313 RJ4 yJ4_append_cf468 wsJ4_append_cf468) := goodIn_app (goodIn_of _ (by decide +kernel)) ggX6_renderStreet_J4_append_cf468
set_option maxRecDepth 20000 in
theorem ggX6_renderStreet_J4_append_15ec4 : GoodIn wsX6_renderStreet wsJ4_append_15ec4 := goodIn_r _ [201, 202, 203, 24, 204, 26, 205, 31, 206, 207, 208, 209, 210, 32, 34, 35, 36, 37, 38, 39, 40, 41, 42, 43, 44, 45, 46, 47, 48, 49, 50, 51, 52, 53, 54, 55, 56, 57, 58, 59, 60, 61, 62, 63, 64, 65, 66, 67, 68, 69, 70, 71, 72, 73, 74, 75, 76, 77, 78, 79, 80, 81, 211, 212, 99, 213, 122, 123, 124, 125, 126, 127, 128, 129, 130, 131, 132, 133, 134, 135, 136, 137, 143, 144, 145, 146, 147, 214, 215, 216, 217, 218, 219, 220, 221, 222, 223, 224, 225, 226, 227, 228, 229, 230, 231, 232, 233, 234, 235, 159, 160, 161, 162, 163, 164, 165, 166, 167, 168, 169, 170, 171, 172, 84, 173, 174, 175, 176, 177, 178, 179, 180, 181, 182, 183, 184, 185, 236, 237, 238, 239, 240, 241, 292, 293, 294, 295, 302, 303, 304, 305] (by decide +kernel) (by decide +kernel)
set_option maxRecDepth 20000 in
theorem gX6_renderStreet_J4_append_15ec4 : GoodIn wsX6_renderStreet (wsV RX6 318 RJ4 yJ4_append_15ec4 wsJ4_append_15ec4) := goodIn_app (goodIn_of _ (by decide +kernel)) ggX6_renderStreet_J4_append_15ec4
set_option maxRecDepth 20000 in
theorem ggX6_renderStreet_X4_saltLeft : GoodIn wsX6_renderStreet wsX4_saltLeft := goodIn_ca (goodIn_r _ [245, 246, 247, 12, 13, 14, 15, 16, 277, 278, 279, 280, 281, 282, 283, 284, 285] (by decide +kernel) (by decide +kernel)) (goodIn_sub (fun _ h => List.mem_cons_of_mem _ (List.mem_append_right _ h)) (by decide +kernel))
set_option maxRecDepth 20000 in
theorem gX6_renderStreet_X4_saltLeft : GoodIn wsX6_renderStreet (wsV RX6 185 RX4 yX4_saltLeft wsX4_saltLeft) := goodIn_app (goodIn_of _ (by decide +kernel)) ggX6_renderStreet_X4_saltLeft
set_option maxRecDepth 20000 in
theorem ggX6_renderStreet_J4_length_8abf5 : GoodIn wsX6_renderStreet wsJ4_length_8abf5 := goodIn_r _ [251, 252, 253, 24, 254, 26, 255, 31, 292, 293, 294, 295] (by decide +kernel) (by decide +kernel)
set_option maxRecDepth 20000 in
theorem gX6_renderStreet_J4_length_8abf5 : GoodIn wsX6_renderStreet (wsV RX6 321 RJ4 yJ4_length_8abf5 wsJ4_length_8abf5) := goodIn_app (goodIn_of _ (by decide +kernel)) ggX6_renderStreet_J4_length_8abf5
set_option maxRecDepth 20000 in
theorem ggX6_renderQueue_X2_has : GoodIn wsX6_renderQueue wsX2_has := goodIn_r _ [11, 12, 230, 231, 232, 233, 234, 235] (by decide +kernel) (by decide +kernel)
set_option maxRecDepth 20000 in
theorem gX6_renderQueue_X2_has : GoodIn wsX6_renderQueue (wsV RX6 225 RX2 yX2_has wsX2_has) := goodIn_app (goodIn_of _ (by decide +kernel)) ggX6_renderQueue_X2_has
set_option maxRecDepth 20000 in
theorem ggX6_renderQueue_J4_setLength_d00df : GoodIn wsX6_renderQueue wsJ4_setLength_d00df := goodIn_r _ [17, 18, 19, 20, 21, 22, 23, 24, 25, 26, 27, 28, 29, 30, 31, 32, 33, 34, 35, 36, 37, 38, 39, 40, 41, 42, 43, 44, 45, 46, 47, 48, 49, 50, 51, 52, 53, 54, 55, 56, 57, 58, 59, 60, 61, 62, 63, 64, 65, 66, 67, 68, 69, 70, 71, 72, 73, 74, 75, 76, 77, 78, 79, 80, 81, 82, 83, 84, 85, 86, 87, 88, 89, 16, 90, 91, 92, 93, 94, 95, 96, 97, 236, 237, 238, 239, 240, 241, 242, 243, 244, 245, 246, 247, 248, 249, 250, 251] (by decide +kernel) (by decide +kernel)
set_option maxRecDepth 20000 in
theorem gX6_renderQueue_J4_setLength_d00df : GoodIn wsX6_renderQueue (wsV RX6 305 RJ4 yJ4_setLength_d00df wsJ4_setLength_d00df) := goodIn_app (goodIn_of _ (by decide +kernel)) ggX6_renderQueue_J4_setLength_d00df
set_option maxRecDepth 20000 in
theorem ggX6_renderQueue_J4_append_cf468 : GoodIn wsX6_renderQueue wsJ4_append_cf468 := goodIn_r _ [101, 102, 103, 20, 104, 22, 105, 27, 28, 30, 31, 32, 33, 34, 35, 36, 37, 38, 39, 40, 41, 42, 43, 44, 45, 46, 47, 48, 49, 50, 51, 52, 53, 54, 55, 56, 57, 58, 59, 60, 61, 62, 63, 64, 65, 66, 67, 68, 69, 70, 71, 72, 73, 74, 75, 76, 77, 106, 107, 80, 108, 109, 110, 111, 112, 113, 114, 115, 95, 116, 117, 118, 119, 120, 121, 122, 123, 124, 125, 126, 127, 128, 129, 130, 131, 132, 133, 134, 135, 136, 137, 138, 139, 140, 141, 142, 143, 144, 145, 146, 147, 148, 149, 150, 151, 152, 153, 154, 155, 156, 157, 158, 159, 242, 243, 244, 245] (by decide +kernel) (by decide +kernel)
set_option maxRecDepth 20000 in
theorem gX6_renderQueue_J4_append_cf468 : GoodIn wsX6_renderQueue (wsV RX6 313 RJ4 yJ4_append_cf468 wsJ4_append_cf468) := goodIn_app (goodIn_of _ (by decide +kernel)) ggX6_renderQueue_J4_append_cf468
set_option maxRecDepth 20000 in
theorem ggX6_renderQueue_X2_waitingAt : GoodIn wsX6_renderQueue wsX2_waitingAt := goodIn_ca (goodIn_r _ [163, 164, 165, 166, 8, 9, 10, 11, 12, 230, 231, 232, 233, 234, 235] (by decide +kernel) (by decide +kernel)) (goodIn_sub (fun _ h => List.mem_cons_of_mem _ (List.mem_append_right _ h)) (by decide +kernel))
set_option maxRecDepth 20000 in
theorem gX6_renderQueue_X2_waitingAt : GoodIn wsX6_renderQueue (wsV RX6 240 RX2 yX2_waitingAt wsX2_waitingAt) := goodIn_app (goodIn_of _ (by decide +kernel)) ggX6_renderQueue_X2_waitingAt
set_option maxRecDepth 20000 in
theorem ggX6_renderQueue_J4_append_bf812 : GoodIn wsX6_renderQueue wsJ4_append_bf812 := goodIn_r _ [170, 171, 172, 20, 173, 22, 174, 27, 28, 175, 176, 177, 178, 30, 31, 32, 33, 34, 35, 36, 37, 38, 39, 40, 41, 42, 43, 44, 45, 46, 47, 48, 49, 50, 51, 52, 53, 54, 55, 56, 57, 58, 59, 60, 61, 62, 63, 64, 65, 66, 67, 68, 69, 70, 71, 72, 73, 74, 75, 76, 77, 179, 180, 181, 182, 183, 184, 185, 95, 186, 145, 187, 188, 189, 130, 131, 132, 190, 191, 135, 192, 137, 193, 194, 140, 195, 196, 197, 198, 199, 200, 142, 143, 144, 146, 147, 242, 243, 244, 245] (by decide +kernel) (by decide +kernel)
set_option maxRecDepth 20000 in
theorem gX6_renderQueue_J4_append_bf812 : GoodIn wsX6_renderQueue (wsV RX6 309 RJ4 yJ4_append_bf812 wsJ4_append_bf812) := goodIn_app (goodIn_of _ (by decide +kernel)) ggX6_renderQueue_J4_append_bf812
set_option maxRecDepth 20000 in
theorem ggX6_renderQueue_J4_length_8abf5 : GoodIn wsX6_renderQueue wsJ4_length_8abf5 := goodIn_r _ [204, 205, 206, 20, 207, 22, 208, 27, 242, 243, 244, 245] (by decide +kernel) (by decide +kernel)
set_option maxRecDepth 20000 in
theorem gX6_renderQueue_J4_length_8abf5 : GoodIn wsX6_renderQueue (wsV RX6 321 RJ4 yJ4_length_8abf5 wsJ4_length_8abf5) := goodIn_app (goodIn_of _ (by decide +kernel)) ggX6_renderQueue_J4_length_8abf5
set_option maxRecDepth 20000 in
theorem ggX6_outputAt_J4_length_8abf5 : GoodIn wsX6_outputAt wsJ4_length_8abf5 := goodIn_r _ [8, 9, 10, 11, 12, 13, 14, 15, 59, 60, 61, 62] (by decide +kernel) (by decide +kernel)
set_option maxRecDepth 20000 in
theorem gX6_outputAt_J4_length_8abf5 : GoodIn wsX6_outputAt (wsV RX6 321 RJ4 yJ4_length_8abf5 wsJ4_length_8abf5) := goodIn_app (goodIn_of _ (by decide +kernel)) ggX6_outputAt_J4_length_8abf5
set_option maxRecDepth 20000 in
theorem ggX6_outputAt_J4_charAt_5068e : GoodIn wsX6_outputAt wsJ4_charAt_5068e := goodIn_r _ [19, 20, 21, 11, 22, 13, 23, 24, 25, 15, 26, 27, 28, 29, 30, 31, 32, 33, 34, 35, 36, 37, 38, 39, 40, 41, 42, 43, 44, 45, 46, 47, 48, 59, 60, 61, 62] (by decide +kernel) (by decide +kernel)
set_option maxRecDepth 20000 in
theorem gX6_outputAt_J4_charAt_5068e : GoodIn wsX6_outputAt (wsV RX6 326 RJ4 yJ4_charAt_5068e wsJ4_charAt_5068e) := goodIn_app (goodIn_of _ (by decide +kernel)) ggX6_outputAt_J4_charAt_5068e
set_option maxRecDepth 20000 in
theorem ggX6_type_J4_length_8abf5 : GoodIn wsX6_type wsJ4_length_8abf5 := goodIn_r _ [11, 12, 13, 14, 15, 16, 17, 18, 146, 147, 148, 149] (by decide +kernel) (by decide +kernel)
set_option maxRecDepth 20000 in
theorem gX6_type_J4_length_8abf5 : GoodIn wsX6_type (wsV RX6 321 RJ4 yJ4_length_8abf5 wsJ4_length_8abf5) := goodIn_app (goodIn_of _ (by decide +kernel)) ggX6_type_J4_length_8abf5
set_option maxRecDepth 20000 in
theorem ggX6_type_J4_append_cf468 : GoodIn wsX6_type wsJ4_append_cf468 := goodIn_r _ [22, 23, 24, 14, 25, 16, 26, 18, 27, 28, 29, 30, 31, 32, 33, 34, 35, 36, 37, 38, 39, 40, 41, 42, 43, 44, 45, 46, 47, 48, 49, 50, 51, 52, 53, 54, 55, 56, 57, 58, 59, 60, 61, 62, 63, 64, 65, 66, 67, 68, 69, 70, 71, 72, 73, 74, 75, 76, 77, 78, 79, 80, 81, 82, 83, 84, 85, 86, 87, 88, 89, 90, 91, 92, 93, 94, 95, 96, 97, 98, 99, 100, 101, 102, 103, 104, 105, 106, 107, 108, 109, 110, 111, 112, 113, 114, 115, 116, 117, 118, 119, 120, 121, 122, 123, 124, 125, 126, 127, 128, 129, 130, 131, 146, 147, 148, 149] (by decide +kernel) (by decide +kernel)
set_option maxRecDepth 20000 in
theorem gX6_type_J4_append_cf468 : GoodIn wsX6_type (wsV RX6 313 RJ4 yJ4_append_cf468 wsJ4_append_cf468) := goodIn_app (goodIn_of _ (by decide +kernel)) ggX6_type_J4_append_cf468
set_option maxRecDepth 20000 in
theorem ggX6_runScript_X3_countCommands : GoodIn wsX6_runScript wsX3_countCommands := goodIn_ca (goodIn_r _ [16, 17, 18, 19, 20, 21, 15, 22, 23, 24, 25, 26, 27, 28, 29, 30, 31, 32, 33, 34, 35, 36, 37, 38, 39, 40, 41, 42, 43, 44, 45, 46, 47, 48, 49, 50, 51, 52, 53, 54, 55, 56, 57, 58, 59, 60, 61, 62, 63, 64, 65, 66, 67, 68, 69, 70, 71, 72, 73, 74, 75, 76, 77, 78, 79, 80, 81, 82, 83, 84, 85, 86, 87, 88, 89, 90, 91, 92, 93, 94, 95, 96, 97, 98, 99, 100, 101, 102, 103, 104, 105, 106, 107, 108, 109, 110, 111, 112, 113, 114, 115, 116, 117, 118, 119, 120, 121, 122, 123, 124, 125, 126, 127, 128, 129, 454, 455, 456, 457, 458, 459, 460, 461, 462, 463, 464, 465] (by decide +kernel) (by decide +kernel)) (goodIn_sub (fun _ h => List.mem_cons_of_mem _ (List.mem_append_right _ h)) (by decide +kernel))
set_option maxRecDepth 20000 in
theorem gX6_runScript_X3_countCommands : GoodIn wsX6_runScript (wsV RX6 337 RX3 yX3_countCommands wsX3_countCommands) := goodIn_app (goodIn_of _ (by decide +kernel)) ggX6_runScript_X3_countCommands
set_option maxRecDepth 20000 in
theorem ggX6_runScript_J4_setLength_d00df : GoodIn wsX6_runScript wsJ4_setLength_d00df := goodIn_r _ [133, 134, 135, 95, 136, 97, 137, 138, 139, 140, 99, 109, 141, 142, 143, 144, 145, 146, 108, 147, 148, 149, 150, 151, 152, 153, 154, 155, 156, 157, 25, 26, 27, 158, 159, 160, 161, 162, 163, 164, 165, 166, 167, 168, 169, 170, 171, 172, 173, 111, 112, 174, 175, 176, 177, 178, 179, 180, 181, 182, 183, 184, 185, 57, 186, 187, 188, 189, 190, 191, 192, 193, 194, 91, 195, 196, 197, 198, 199, 69, 200, 201, 466, 467, 468, 469, 470, 471, 462, 463, 464, 465, 472, 473, 474, 475, 476, 477] (by decide +kernel) (by decide +kernel)
set_option maxRecDepth 20000 in
theorem gX6_runScript_J4_setLength_d00df : GoodIn wsX6_runScript (wsV RX6 305 RJ4 yJ4_setLength_d00df wsJ4_setLength_d00df) := goodIn_app (goodIn_of _ (by decide +kernel)) ggX6_runScript_J4_setLength_d00df
set_option maxRecDepth 20000 in
theorem ggX6_runScript_X0_write : GoodIn wsX6_runScript wsX0_write := goodIn_r _ [206, 207, 208, 209, 205, 210, 211, 212, 213, 214, 215, 216, 217, 218, 219, 220, 221, 222, 223, 224, 225, 226, 227, 228, 229, 230, 231, 232, 233, 234, 175, 176, 177, 235, 236, 237, 238, 239, 240, 241, 242, 243, 244, 245, 246, 247, 248, 249, 250, 251, 252, 253, 254, 478, 479, 480, 481, 482, 483, 484, 485, 486, 487, 488, 489, 490, 491, 492, 493, 494, 495, 496, 497, 498, 499, 500, 501, 502, 503, 504, 505, 506] (by decide +kernel) (by decide +kernel)
set_option maxRecDepth 20000 in
theorem gX6_runScript_X0_write : GoodIn wsX6_runScript (wsV RX6 63 RX0 yX0_write wsX0_write) := goodIn_app (goodIn_of _ (by decide +kernel)) ggX6_runScript_X0_write
set_option maxRecDepth 20000 in
theorem ggX6_runScript_X6_obeyNext : GoodIn wsX6_runScript wsX6_obeyNext := goodIn_ca (goodIn_r _ [259, 5, 260, 10, 261, 262, 263, 15, 264, 17, 19, 20, 21, 22, 23, 24, 25, 26, 27, 28, 29, 30, 31, 32, 33, 34, 35, 36, 37, 38, 39, 40, 41, 42, 43, 44, 45, 46, 47, 48, 49, 50, 51, 52, 53, 54, 55, 56, 57, 58, 59, 60, 61, 62, 63, 64, 65, 66, 67, 68, 69, 70, 71, 72, 73, 74, 75, 76, 77, 78, 79, 80, 81, 82, 83, 84, 85, 86, 87, 18, 88, 89, 90, 91, 92, 93, 94, 95, 96, 97, 98, 99, 100, 101, 102, 103, 104, 105, 106, 107, 108, 109, 110, 111, 112, 113, 114, 115, 116, 117, 118, 119, 120, 121, 122, 123, 124, 125, 126, 127, 128, 129, 265, 266, 267, 268, 269, 270, 271, 216, 272, 273, 274, 218, 275, 258, 276, 277, 278, 279, 231, 280, 242, 233, 235, 281, 282, 283, 284, 236, 237, 238, 239, 240, 241, 285, 286, 287, 288, 219, 289, 290, 291, 246, 292, 254, 248, 250, 251, 252, 293, 294, 295, 296, 297, 298, 299, 300, 301, 302, 303, 304, 253, 305, 306, 307, 308, 309, 310, 311, 312, 313, 314, 315, 316, 317, 318, 319, 320, 321, 322, 323, 324, 220, 221, 325, 326, 327, 328, 329, 330, 331, 332, 333, 334, 335, 336, 337, 338, 339, 222, 340, 341, 342, 343, 223, 344, 345, 346, 347, 224, 348, 349, 350, 351, 352, 353, 354, 355, 356, 357, 226, 358, 359, 360, 361, 362, 363, 364, 365, 366, 367, 368, 369, 370, 371, 372, 373, 374, 375, 376, 377, 378, 379, 380, 381, 382, 383, 384, 385, 386, 387, 388, 389, 390, 391, 392, 393, 394, 395, 396, 397, 398, 399, 400, 401, 402, 403, 404, 405, 225, 406, 407, 408, 409, 410, 411, 227, 412, 413, 414, 415, 416, 417, 418, 419, 420, 421, 422, 423, 424, 425, 426, 427, 428, 429, 430, 431, 432, 433, 444, 445, 446, 447, 448, 449, 450, 451, 452, 453, 454, 455, 456, 457, 458, 459, 460, 461, 462, 463, 464, 465, 481, 482, 483, 484, 485, 486, 487, 488, 489, 490, 491, 492, 493, 494, 495, 496, 497, 498, 499, 500, 501, 502, 503, 504, 505, 506, 507, 508, 509] (by decide +kernel) (by decide +kernel)) (goodIn_sub (fun _ h => List.mem_cons_of_mem _ (List.mem_append_right _ h)) (by decide +kernel))
set_option maxRecDepth 20000 in
theorem gX6_runScript_X6_obeyNext : GoodIn wsX6_runScript (wsV RX6 345 RX6 yX6_obeyNext wsX6_obeyNext) := goodIn_app (goodIn_of _ (by decide +kernel)) ggX6_runScript_X6_obeyNext
set_option maxRecDepth 20000 in
theorem ggX6_runScript_X0_read : GoodIn wsX6_runScript wsX0_read := goodIn_r _ [437, 207, 208, 209, 205, 210, 211, 212, 213, 214, 215, 216, 217, 218, 219, 220, 221, 222, 223, 224, 225, 226, 227, 228, 229, 230, 231, 232, 233, 234, 175, 176, 177, 235, 236, 237, 238, 239, 240, 241, 242, 243, 244, 245, 246, 247, 248, 249, 250, 251, 252, 253, 254, 478, 479, 480, 481, 482, 483, 484, 485, 486, 487, 488, 489, 490, 491, 492, 493, 494, 495, 496, 497, 498, 499, 500, 501, 502, 503, 504, 505, 506] (by decide +kernel) (by decide +kernel)
set_option maxRecDepth 20000 in
theorem gX6_runScript_X0_read : GoodIn wsX6_runScript (wsV RX6 348 RX0 yX0_read wsX0_read) := goodIn_app (goodIn_of _ (by decide +kernel)) ggX6_runScript_X0_read
set_option maxRecDepth 20000 in
theorem ggX6_runScript_X0_push : GoodIn wsX6_runScript wsX0_push := goodIn_r _ [441, 211, 442, 443, 111, 26, 112, 478, 479, 480] (by decide +kernel) (by decide +kernel)
set_option maxRecDepth 20000 in
theorem gX6_runScript_X0_push : GoodIn wsX6_runScript (wsV RX6 88 RX0 yX0_push wsX0_push) := goodIn_app (goodIn_of _ (by decide +kernel)) ggX6_runScript_X0_push
set_option maxRecDepth 20000 in
theorem ggX6_obeyNext_X3_readNext : GoodIn wsX6_obeyNext wsX3_readNext := goodIn_ca (goodIn_r _ [8, 9, 10, 11, 12, 7, 13, 14, 15, 16, 17, 18, 19, 20, 21, 22, 23, 24, 25, 26, 27, 28, 29, 30, 31, 32, 33, 34, 35, 36, 37, 38, 39, 40, 41, 42, 43, 44, 45, 46, 47, 48, 49, 50, 51, 52, 53, 54, 55, 56, 57, 58, 59, 60, 61, 62, 63, 64, 65, 66, 67, 68, 69, 70, 71, 72, 73, 74, 75, 76, 77, 78, 79, 80, 81, 82, 83, 84, 85, 86, 87, 88, 89, 90, 91, 92, 93, 94, 95, 96, 97, 98, 99, 100, 101, 102, 103, 104, 105, 106, 107, 108, 109, 110, 111, 112, 113, 114, 115, 116, 117, 118, 119, 120, 121, 330, 331, 332, 333, 334, 335, 336, 337, 338, 339, 340, 341] (by decide +kernel) (by decide +kernel)) (goodIn_sub (fun _ h => List.mem_cons_of_mem _ (List.mem_append_right _ h)) (by decide +kernel))
set_option maxRecDepth 20000 in
theorem gX6_obeyNext_X3_readNext : GoodIn wsX6_obeyNext (wsV RX6 353 RX3 yX3_readNext wsX3_readNext) := goodIn_app (goodIn_of _ (by decide +kernel)) ggX6_obeyNext_X3_readNext
set_option maxRecDepth 20000 in
theorem ggX6_obeyNext_X3_value : GoodIn wsX6_obeyNext wsX3_value := goodIn_ca (goodIn_r _ [125, 117, 330, 331, 332, 333] (by decide +kernel) (by decide +kernel)) (goodIn_sub (fun _ h => List.mem_cons_of_mem _ (List.mem_append_right _ h)) (by decide +kernel))
set_option maxRecDepth 20000 in
theorem gX6_obeyNext_X3_value : GoodIn wsX6_obeyNext (wsV RX6 359 RX3 yX3_value wsX3_value) := goodIn_app (goodIn_of _ (by decide +kernel)) ggX6_obeyNext_X3_value
set_option maxRecDepth 20000 in
theorem ggX6_obeyNext_X5_putStreet : GoodIn wsX6_obeyNext wsX5_putStreet := goodIn_ca (goodIn_r _ [130, 131, 103, 17, 104, 132, 16, 18, 133, 134, 135, 136, 137, 138, 139, 140, 141, 142, 143, 144, 145, 146, 147, 148, 149, 150, 151, 152, 153, 154, 342, 343, 344, 345, 346, 347, 348, 349, 350, 351, 352, 353, 354, 355, 356, 357, 358, 359, 360, 361] (by decide +kernel) (by decide +kernel)) (goodIn_sub (fun _ h => List.mem_cons_of_mem _ (List.mem_append_right _ h)) (by decide +kernel))
set_option maxRecDepth 20000 in
theorem gX6_obeyNext_X5_putStreet : GoodIn wsX6_obeyNext (wsV RX6 67 RX5 yX5_putStreet wsX5_putStreet) := goodIn_app (goodIn_of _ (by decide +kernel)) ggX6_obeyNext_X5_putStreet
set_option maxRecDepth 20000 in
theorem ggX6_obeyNext_X5_putPlough : GoodIn wsX6_obeyNext wsX5_putPlough := goodIn_ca (goodIn_r _ [158, 159, 134, 135, 136, 160, 161, 162, 163, 164, 165, 166, 167, 168, 169, 342, 343, 344, 345, 346, 347, 348, 349, 350, 351, 352, 362, 363, 364, 365, 366, 367] (by decide +kernel) (by decide +kernel)) (goodIn_sub (fun _ h => List.mem_cons_of_mem _ (List.mem_append_right _ h)) (by decide +kernel))
set_option maxRecDepth 20000 in
theorem gX6_obeyNext_X5_putPlough : GoodIn wsX6_obeyNext (wsV RX6 91 RX5 yX5_putPlough wsX5_putPlough) := goodIn_app (goodIn_of _ (by decide +kernel)) ggX6_obeyNext_X5_putPlough
set_option maxRecDepth 20000 in
theorem ggX6_obeyNext_X5_appendOrder : GoodIn wsX6_obeyNext wsX5_appendOrder := goodIn_ca (goodIn_r _ [173, 133, 159, 174, 175, 176, 140, 177, 142, 178, 179, 180, 163, 181, 169, 182, 183, 184, 185, 186, 165, 342, 343, 344, 345, 346, 347, 348, 349, 350, 351, 352, 353, 354, 355, 356, 357, 358, 359, 360, 361, 362, 363, 364, 365, 366, 367] (by decide +kernel) (by decide +kernel)) (goodIn_sub (fun _ h => List.mem_cons_of_mem _ (List.mem_append_right _ h)) (by decide +kernel))
set_option maxRecDepth 20000 in
theorem gX6_obeyNext_X5_appendOrder : GoodIn wsX6_obeyNext (wsV RX6 97 RX5 yX5_appendOrder wsX5_appendOrder) := goodIn_app (goodIn_of _ (by decide +kernel)) ggX6_obeyNext_X5_appendOrder
set_option maxRecDepth 20000 in
theorem ggX6_obeyNext_X5_removeOrder : GoodIn wsX6_obeyNext wsX5_removeOrder := goodIn_ca (goodIn_r _ [190, 159, 191, 192, 193, 163, 194, 169, 183, 184, 185, 186, 165, 195, 196, 197, 198, 182, 342, 343, 344, 345, 346, 347, 348, 349, 350, 351, 352, 362, 363, 364, 365, 366, 367] (by decide +kernel) (by decide +kernel)) (goodIn_sub (fun _ h => List.mem_cons_of_mem _ (List.mem_append_right _ h)) (by decide +kernel))
set_option maxRecDepth 20000 in
theorem gX6_obeyNext_X5_removeOrder : GoodIn wsX6_obeyNext (wsV RX6 105 RX5 yX5_removeOrder wsX5_removeOrder) := goodIn_app (goodIn_of _ (by decide +kernel)) ggX6_obeyNext_X5_removeOrder
set_option maxRecDepth 20000 in
theorem ggX6_obeyNext_X5_spreadSalt : GoodIn wsX6_obeyNext wsX5_spreadSalt := goodIn_ca (goodIn_r _ [202, 133, 203, 204, 205, 206, 174, 175, 176, 140, 177, 142, 207, 208, 209, 210, 152, 211, 342, 343, 344, 345, 346, 347, 348, 349, 350, 351, 352, 353, 354, 355, 356, 357, 358, 359, 360, 361] (by decide +kernel) (by decide +kernel)) (goodIn_sub (fun _ h => List.mem_cons_of_mem _ (List.mem_append_right _ h)) (by decide +kernel))
set_option maxRecDepth 20000 in
theorem gX6_obeyNext_X5_spreadSalt : GoodIn wsX6_obeyNext (wsV RX6 115 RX5 yX5_spreadSalt wsX5_spreadSalt) := goodIn_app (goodIn_of _ (by decide +kernel)) ggX6_obeyNext_X5_spreadSalt
set_option maxRecDepth 20000 in
theorem ggX6_obeyNext_X5_fillStore : GoodIn wsX6_obeyNext wsX5_fillStore := goodIn_r _ [215, 204, 342, 343, 344, 345, 346, 347, 348, 349, 350, 351, 352] (by decide +kernel) (by decide +kernel)
set_option maxRecDepth 20000 in
theorem gX6_obeyNext_X5_fillStore : GoodIn wsX6_obeyNext (wsV RX6 127 RX5 yX5_fillStore wsX5_fillStore) := goodIn_app (goodIn_of _ (by decide +kernel)) ggX6_obeyNext_X5_fillStore
set_option maxRecDepth 20000 in
theorem ggX6_obeyNext_X5_changeRate : GoodIn wsX6_obeyNext wsX5_changeRate := goodIn_r _ [219, 220, 342, 343, 344, 345, 346, 347, 348, 349, 350, 351, 352] (by decide +kernel) (by decide +kernel)
set_option maxRecDepth 20000 in
theorem gX6_obeyNext_X5_changeRate : GoodIn wsX6_obeyNext (wsV RX6 134 RX5 yX5_changeRate wsX5_changeRate) := goodIn_app (goodIn_of _ (by decide +kernel)) ggX6_obeyNext_X5_changeRate
set_option maxRecDepth 20000 in
theorem ggX6_obeyNext_X5_changeForce : GoodIn wsX6_obeyNext wsX5_changeForce := goodIn_r _ [224, 225, 342, 343, 344, 345, 346, 347, 348, 349, 350, 351, 352] (by decide +kernel) (by decide +kernel)
set_option maxRecDepth 20000 in
theorem gX6_obeyNext_X5_changeForce : GoodIn wsX6_obeyNext (wsV RX6 139 RX5 yX5_changeForce wsX5_changeForce) := goodIn_app (goodIn_of _ (by decide +kernel)) ggX6_obeyNext_X5_changeForce
set_option maxRecDepth 20000 in
theorem ggX6_obeyNext_X5_passMinutes : GoodIn wsX6_obeyNext wsX5_passMinutes := goodIn_ca (goodIn_r _ [229, 230, 203, 159, 231, 232, 233, 234, 163, 235, 168, 169, 183, 184, 185, 186, 165, 236, 237, 238, 129, 239, 240, 133, 241, 242, 243, 244, 245, 246, 247, 248, 182, 195, 196, 197, 198, 249, 250, 251, 252, 253, 131, 103, 17, 104, 205, 254, 174, 175, 176, 140, 177, 142, 255, 256, 257, 258, 259, 260, 261, 262, 263, 264, 265, 266, 267, 268, 269, 134, 135, 136, 270, 271, 272, 273, 143, 144, 274, 275, 276, 277, 278, 279, 280, 281, 167, 166, 282, 283, 284, 285, 286, 287, 288, 289, 290, 291, 292, 293, 294, 295, 296, 220, 225, 297, 298, 299, 300, 301, 151, 302, 303, 304, 305, 306, 152, 307, 16, 18, 308, 309, 310, 311, 211, 312, 313, 314, 315, 153, 316, 317, 318, 319, 149, 342, 343, 344, 345, 346, 347, 348, 349, 350, 351, 352, 362, 363, 364, 365, 366, 367, 353, 354, 355, 356, 357, 358, 359, 360, 361, 368, 369, 370] (by decide +kernel) (by decide +kernel)) (goodIn_sub (fun _ h => List.mem_cons_of_mem _ (List.mem_append_right _ h)) (by decide +kernel))
set_option maxRecDepth 20000 in
theorem gX6_obeyNext_X5_passMinutes : GoodIn wsX6_obeyNext (wsV RX6 144 RX5 yX5_passMinutes wsX5_passMinutes) := goodIn_app (goodIn_of _ (by decide +kernel)) ggX6_obeyNext_X5_passMinutes
set_option maxRecDepth 20000 in
theorem ggX6_undo_X0_pop : GoodIn wsX6_undo wsX0_pop := goodIn_r _ [10, 11, 12, 77, 78, 79] (by decide +kernel) (by decide +kernel)
set_option maxRecDepth 20000 in
theorem gX6_undo_X0_pop : GoodIn wsX6_undo (wsV RX6 369 RX0 yX0_pop wsX0_pop) := goodIn_app (goodIn_of _ (by decide +kernel)) ggX6_undo_X0_pop
set_option maxRecDepth 20000 in
theorem ggX6_undo_X0_read : GoodIn wsX6_undo wsX0_read := goodIn_r _ [16, 17, 18, 19, 9, 20, 11, 21, 22, 23, 24, 25, 26, 27, 28, 29, 30, 31, 32, 33, 34, 35, 36, 37, 38, 39, 40, 41, 42, 43, 44, 45, 46, 47, 48, 49, 50, 51, 52, 53, 54, 55, 56, 57, 58, 59, 60, 61, 62, 63, 64, 65, 66, 77, 78, 79, 80, 81, 82, 83, 84, 85, 86, 87, 88, 89, 90, 91, 92, 93, 94, 95, 96, 97, 98, 99, 100, 101, 102, 103, 104, 105] (by decide +kernel) (by decide +kernel)
set_option maxRecDepth 20000 in
theorem gX6_undo_X0_read : GoodIn wsX6_undo (wsV RX6 348 RX0 yX0_read wsX0_read) := goodIn_app (goodIn_of _ (by decide +kernel)) ggX6_undo_X0_read
set_option maxRecDepth 20000 in
theorem ggX6_save_X5_copyFrom : GoodIn wsX6_save wsX5_copyFrom := goodIn_r _ [10, 11, 12, 13, 14, 15, 16, 17, 18, 19, 20, 21, 22, 23, 24, 25, 26, 27, 28, 29, 30, 31, 32, 33, 34, 35, 36, 37, 38, 39, 40, 41, 42, 43, 44, 45, 46, 47, 48, 49, 50, 61, 62, 63, 64, 65, 66, 67, 68, 69, 70, 71, 72, 73, 74, 75, 76, 77, 78, 79, 80, 81, 82, 83, 84, 85, 86] (by decide +kernel) (by decide +kernel)
set_option maxRecDepth 20000 in
theorem gX6_save_X5_copyFrom : GoodIn wsX6_save (wsV RX6 255 RX5 yX5_copyFrom wsX5_copyFrom) := goodIn_app (goodIn_of _ (by decide +kernel)) ggX6_save_X5_copyFrom
set_option maxRecDepth 20000 in
theorem ggX6_restore_X5_copyFrom : GoodIn wsX6_restore wsX5_copyFrom := goodIn_r _ [14, 15, 16, 17, 18, 19, 20, 21, 22, 23, 24, 25, 26, 27, 28, 29, 30, 31, 32, 33, 34, 35, 36, 37, 38, 39, 40, 41, 42, 43, 44, 45, 46, 47, 48, 49, 50, 51, 52, 53, 54, 68, 69, 70, 71, 72, 73, 74, 75, 76, 77, 78, 79, 80, 81, 82, 83, 84, 85, 86, 87, 88, 89, 90, 91, 92, 93] (by decide +kernel) (by decide +kernel)
set_option maxRecDepth 20000 in
theorem gX6_restore_X5_copyFrom : GoodIn wsX6_restore (wsV RX6 255 RX5 yX5_copyFrom wsX5_copyFrom) := goodIn_app (goodIn_of _ (by decide +kernel)) ggX6_restore_X5_copyFrom
