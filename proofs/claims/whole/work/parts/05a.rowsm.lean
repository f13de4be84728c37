theorem dX7_init_0 : decode cX7_init 0 = .ok (.aload_n 0, 1) := by decide +kernel
theorem dX7_init_1 : decode cX7_init 1 = .ok (.invokespecial 3, 3) := by decide +kernel
theorem dX7_init_4 : decode cX7_init 4 = .ok (.aload_n 0, 1) := by decide +kernel
theorem dX7_init_5 : decode cX7_init 5 = .ok (.sipush 130, 3) := by decide +kernel
theorem dX7_init_8 : decode cX7_init 8 = .ok (.newarray .int, 2) := by decide +kernel
theorem dX7_init_10 : decode cX7_init 10 = .ok (.putfield 9, 3) := by decide +kernel
theorem dX7_init_13 : decode cX7_init 13 = .ok (.aload_n 0, 1) := by decide +kernel
theorem dX7_init_14 : decode cX7_init 14 = .ok (.sipush 130, 3) := by decide +kernel
theorem dX7_init_17 : decode cX7_init 17 = .ok (.newarray .int, 2) := by decide +kernel
theorem dX7_init_19 : decode cX7_init 19 = .ok (.putfield 13, 3) := by decide +kernel
theorem dX7_init_22 : decode cX7_init 22 = .ok (.aload_n 0, 1) := by decide +kernel
theorem dX7_init_23 : decode cX7_init 23 = .ok (.sipush 130, 3) := by decide +kernel
theorem dX7_init_26 : decode cX7_init 26 = .ok (.newarray .int, 2) := by decide +kernel
theorem dX7_init_28 : decode cX7_init 28 = .ok (.putfield 16, 3) := by decide +kernel
theorem dX7_init_31 : decode cX7_init 31 = .ok (.aload_n 0, 1) := by decide +kernel
theorem dX7_init_32 : decode cX7_init 32 = .ok (.sipush 130, 3) := by decide +kernel
theorem dX7_init_35 : decode cX7_init 35 = .ok (.newarray .int, 2) := by decide +kernel
theorem dX7_init_37 : decode cX7_init 37 = .ok (.putfield 19, 3) := by decide +kernel
theorem dX7_init_40 : decode cX7_init 40 = .ok (.aload_n 0, 1) := by decide +kernel
theorem dX7_init_41 : decode cX7_init 41 = .ok (.sipush 1040, 3) := by decide +kernel
theorem dX7_init_44 : decode cX7_init 44 = .ok (.newarray .int, 2) := by decide +kernel
theorem dX7_init_46 : decode cX7_init 46 = .ok (.putfield 22, 3) := by decide +kernel
theorem dX7_init_49 : decode cX7_init 49 = .ok (.aload_n 0, 1) := by decide +kernel
theorem dX7_init_50 : decode cX7_init 50 = .ok (.bipush 8, 2) := by decide +kernel
theorem dX7_init_52 : decode cX7_init 52 = .ok (.newarray .int, 2) := by decide +kernel
theorem dX7_init_54 : decode cX7_init 54 = .ok (.putfield 25, 3) := by decide +kernel
theorem dX7_init_57 : decode cX7_init 57 = .ok (.aload_n 0, 1) := by decide +kernel
theorem dX7_init_58 : decode cX7_init 58 = .ok (.bipush 12, 2) := by decide +kernel
theorem dX7_init_60 : decode cX7_init 60 = .ok (.newarray .int, 2) := by decide +kernel
theorem dX7_init_62 : decode cX7_init 62 = .ok (.putfield 28, 3) := by decide +kernel
theorem dX7_init_65 : decode cX7_init 65 = .ok (.aload_n 0, 1) := by decide +kernel
theorem dX7_init_66 : decode cX7_init 66 = .ok (.iconst (-1), 1) := by decide +kernel
theorem dX7_init_67 : decode cX7_init 67 = .ok (.putfield 31, 3) := by decide +kernel
theorem dX7_init_70 : decode cX7_init 70 = .ok (.aload_n 0, 1) := by decide +kernel
theorem dX7_init_71 : decode cX7_init 71 = .ok (.iconst (-1), 1) := by decide +kernel
theorem dX7_init_72 : decode cX7_init 72 = .ok (.putfield 35, 3) := by decide +kernel
theorem dX7_init_75 : decode cX7_init 75 = .ok (.aload_n 0, 1) := by decide +kernel
theorem dX7_init_76 : decode cX7_init 76 = .ok (.bipush 40, 2) := by decide +kernel
theorem dX7_init_78 : decode cX7_init 78 = .ok (.newarray .int, 2) := by decide +kernel
theorem dX7_init_80 : decode cX7_init 80 = .ok (.putfield 38, 3) := by decide +kernel
theorem dX7_init_83 : decode cX7_init 83 = .ok (.aload_n 0, 1) := by decide +kernel
theorem dX7_init_84 : decode cX7_init 84 = .ok (.bipush 60, 2) := by decide +kernel
theorem dX7_init_86 : decode cX7_init 86 = .ok (.newarray .int, 2) := by decide +kernel
theorem dX7_init_88 : decode cX7_init 88 = .ok (.putfield 41, 3) := by decide +kernel
theorem dX7_init_91 : decode cX7_init 91 = .ok (.aload_n 0, 1) := by decide +kernel
theorem dX7_init_92 : decode cX7_init 92 = .ok (.sipush 155, 3) := by decide +kernel
theorem dX7_init_95 : decode cX7_init 95 = .ok (.newarray .int, 2) := by decide +kernel
theorem dX7_init_97 : decode cX7_init 97 = .ok (.putfield 44, 3) := by decide +kernel
theorem dX7_init_100 : decode cX7_init 100 = .ok (.return_, 1) := by decide +kernel
theorem dX7_thrown_0 : decode cX7_thrown 0 = .ok (.aload_n 0, 1) := by decide +kernel
theorem dX7_thrown_1 : decode cX7_thrown 1 = .ok (.getfield 47, 3) := by decide +kernel
theorem dX7_thrown_4 : decode cX7_thrown 4 = .ok (.ireturn, 1) := by decide +kernel
theorem dX7_isIn_0 : decode cX7_isIn 0 = .ok (.iload_n 0, 1) := by decide +kernel
theorem dX7_isIn_1 : decode cX7_isIn 1 = .ok (.iload_n 1, 1) := by decide +kernel
theorem dX7_isIn_2 : decode cX7_isIn 2 = .ok (.if_icmp .lt 12, 3) := by decide +kernel
theorem dX7_isIn_5 : decode cX7_isIn 5 = .ok (.iload_n 0, 1) := by decide +kernel
theorem dX7_isIn_6 : decode cX7_isIn 6 = .ok (.iload_n 2, 1) := by decide +kernel
theorem dX7_isIn_7 : decode cX7_isIn 7 = .ok (.if_icmp .gt 7, 3) := by decide +kernel
theorem dX7_isIn_10 : decode cX7_isIn 10 = .ok (.iconst 1, 1) := by decide +kernel
theorem dX7_isIn_11 : decode cX7_isIn 11 = .ok (.goto 4, 3) := by decide +kernel
theorem dX7_isIn_14 : decode cX7_isIn 14 = .ok (.iconst 0, 1) := by decide +kernel
theorem dX7_isIn_15 : decode cX7_isIn 15 = .ok (.ireturn, 1) := by decide +kernel
theorem dX7_lesser_0 : decode cX7_lesser 0 = .ok (.iload_n 0, 1) := by decide +kernel
theorem dX7_lesser_1 : decode cX7_lesser 1 = .ok (.iload_n 1, 1) := by decide +kernel
theorem dX7_lesser_2 : decode cX7_lesser 2 = .ok (.if_icmp .ge 7, 3) := by decide +kernel
theorem dX7_lesser_5 : decode cX7_lesser 5 = .ok (.iload_n 0, 1) := by decide +kernel
theorem dX7_lesser_6 : decode cX7_lesser 6 = .ok (.goto 4, 3) := by decide +kernel
theorem dX7_lesser_9 : decode cX7_lesser 9 = .ok (.iload_n 1, 1) := by decide +kernel
theorem dX7_lesser_10 : decode cX7_lesser 10 = .ok (.ireturn, 1) := by decide +kernel
theorem dX7_greater_0 : decode cX7_greater 0 = .ok (.iload_n 0, 1) := by decide +kernel
theorem dX7_greater_1 : decode cX7_greater 1 = .ok (.iload_n 1, 1) := by decide +kernel
theorem dX7_greater_2 : decode cX7_greater 2 = .ok (.if_icmp .le 7, 3) := by decide +kernel
theorem dX7_greater_5 : decode cX7_greater 5 = .ok (.iload_n 0, 1) := by decide +kernel
theorem dX7_greater_6 : decode cX7_greater 6 = .ok (.goto 4, 3) := by decide +kernel
theorem dX7_greater_9 : decode cX7_greater 9 = .ok (.iload_n 1, 1) := by decide +kernel
theorem dX7_greater_10 : decode cX7_greater 10 = .ok (.ireturn, 1) := by decide +kernel
theorem dX7_copies_0 : decode cX7_copies 0 = .ok (.iconst 0, 1) := by decide +kernel
theorem dX7_copies_1 : decode cX7_copies 1 = .ok (.istore 4, 2) := by decide +kernel
theorem dX7_copies_3 : decode cX7_copies 3 = .ok (.iload 4, 2) := by decide +kernel
theorem dX7_copies_5 : decode cX7_copies 5 = .ok (.sipush 130, 3) := by decide +kernel
theorem dX7_copies_8 : decode cX7_copies 8 = .ok (.if_icmp .ge 21, 3) := by decide +kernel
theorem dX7_copies_11 : decode cX7_copies 11 = .ok (.aload_n 2, 1) := by decide +kernel
theorem dX7_copies_12 : decode cX7_copies 12 = .ok (.iload_n 3, 1) := by decide +kernel
theorem dX7_copies_13 : decode cX7_copies 13 = .ok (.iload 4, 2) := by decide +kernel
theorem dX7_copies_15 : decode cX7_copies 15 = .ok (.iadd, 1) := by decide +kernel
theorem dX7_copies_16 : decode cX7_copies 16 = .ok (.aload_n 0, 1) := by decide +kernel
theorem dX7_copies_17 : decode cX7_copies 17 = .ok (.iload_n 1, 1) := by decide +kernel
theorem dX7_copies_18 : decode cX7_copies 18 = .ok (.iload 4, 2) := by decide +kernel
theorem dX7_copies_20 : decode cX7_copies 20 = .ok (.iadd, 1) := by decide +kernel
theorem dX7_copies_21 : decode cX7_copies 21 = .ok (.iaload, 1) := by decide +kernel
theorem dX7_copies_22 : decode cX7_copies 22 = .ok (.iastore, 1) := by decide +kernel
theorem dX7_copies_23 : decode cX7_copies 23 = .ok (.iinc 4 1, 3) := by decide +kernel
theorem dX7_copies_26 : decode cX7_copies 26 = .ok (.goto (-23), 3) := by decide +kernel
theorem dX7_copies_29 : decode cX7_copies 29 = .ok (.return_, 1) := by decide +kernel
theorem dX7_keeps_0 : decode cX7_keeps 0 = .ok (.aload_n 0, 1) := by decide +kernel
theorem dX7_keeps_1 : decode cX7_keeps 1 = .ok (.getfield 9, 3) := by decide +kernel
theorem dX7_keeps_4 : decode cX7_keeps 4 = .ok (.iconst 0, 1) := by decide +kernel
theorem dX7_keeps_5 : decode cX7_keeps 5 = .ok (.aload_n 0, 1) := by decide +kernel
theorem dX7_keeps_6 : decode cX7_keeps 6 = .ok (.getfield 13, 3) := by decide +kernel
theorem dX7_keeps_9 : decode cX7_keeps 9 = .ok (.iconst 0, 1) := by decide +kernel
theorem dX7_keeps_10 : decode cX7_keeps 10 = .ok (.invokestatic 50, 3) := by decide +kernel
theorem dX7_keeps_13 : decode cX7_keeps 13 = .ok (.aload_n 0, 1) := by decide +kernel
theorem dX7_keeps_14 : decode cX7_keeps 14 = .ok (.iconst 0, 1) := by decide +kernel
theorem dX7_keeps_15 : decode cX7_keeps 15 = .ok (.putfield 47, 3) := by decide +kernel
theorem dX7_keeps_18 : decode cX7_keeps 18 = .ok (.return_, 1) := by decide +kernel
theorem dX7_ends_0 : decode cX7_ends 0 = .ok (.aload_n 0, 1) := by decide +kernel
theorem dX7_ends_1 : decode cX7_ends 1 = .ok (.getfield 47, 3) := by decide +kernel
theorem dX7_ends_4 : decode cX7_ends 4 = .ok (.ifCond .eq 5, 3) := by decide +kernel
theorem dX7_ends_7 : decode cX7_ends 7 = .ok (.iconst 0, 1) := by decide +kernel
theorem dX7_ends_8 : decode cX7_ends 8 = .ok (.ireturn, 1) := by decide +kernel
theorem dX7_ends_9 : decode cX7_ends 9 = .ok (.aload_n 0, 1) := by decide +kernel
theorem dX7_ends_10 : decode cX7_ends 10 = .ok (.getfield 54, 3) := by decide +kernel
theorem dX7_ends_13 : decode cX7_ends 13 = .ok (.bipush 8, 2) := by decide +kernel
theorem dX7_ends_15 : decode cX7_ends 15 = .ok (.if_icmp .ne 50, 3) := by decide +kernel
theorem dX7_ends_18 : decode cX7_ends 18 = .ok (.iconst 1, 1) := by decide +kernel
theorem dX7_ends_19 : decode cX7_ends 19 = .ok (.istore_n 2, 1) := by decide +kernel
theorem dX7_ends_20 : decode cX7_ends 20 = .ok (.iload_n 2, 1) := by decide +kernel
theorem dX7_ends_21 : decode cX7_ends 21 = .ok (.bipush 8, 2) := by decide +kernel
theorem dX7_ends_23 : decode cX7_ends 23 = .ok (.if_icmp .ge 32, 3) := by decide +kernel
theorem dX7_ends_26 : decode cX7_ends 26 = .ok (.aload_n 0, 1) := by decide +kernel
theorem dX7_ends_27 : decode cX7_ends 27 = .ok (.getfield 22, 3) := by decide +kernel
theorem dX7_ends_30 : decode cX7_ends 30 = .ok (.sipush 130, 3) := by decide +kernel
theorem dX7_ends_33 : decode cX7_ends 33 = .ok (.iload_n 2, 1) := by decide +kernel
theorem dX7_ends_34 : decode cX7_ends 34 = .ok (.imul, 1) := by decide +kernel
theorem dX7_ends_35 : decode cX7_ends 35 = .ok (.aload_n 0, 1) := by decide +kernel
theorem dX7_ends_36 : decode cX7_ends 36 = .ok (.getfield 22, 3) := by decide +kernel
theorem dX7_ends_39 : decode cX7_ends 39 = .ok (.sipush 130, 3) := by decide +kernel
theorem dX7_ends_42 : decode cX7_ends 42 = .ok (.iload_n 2, 1) := by decide +kernel
theorem dX7_ends_43 : decode cX7_ends 43 = .ok (.iconst 1, 1) := by decide +kernel
theorem dX7_ends_44 : decode cX7_ends 44 = .ok (.isub, 1) := by decide +kernel
theorem dX7_ends_45 : decode cX7_ends 45 = .ok (.imul, 1) := by decide +kernel
theorem dX7_ends_46 : decode cX7_ends 46 = .ok (.invokestatic 50, 3) := by decide +kernel
theorem dX7_ends_49 : decode cX7_ends 49 = .ok (.iinc 2 1, 3) := by decide +kernel
theorem dX7_ends_52 : decode cX7_ends 52 = .ok (.goto (-32), 3) := by decide +kernel
theorem dX7_ends_55 : decode cX7_ends 55 = .ok (.aload_n 0, 1) := by decide +kernel
theorem dX7_ends_56 : decode cX7_ends 56 = .ok (.dup, 1) := by decide +kernel
theorem dX7_ends_57 : decode cX7_ends 57 = .ok (.getfield 54, 3) := by decide +kernel
theorem dX7_ends_60 : decode cX7_ends 60 = .ok (.iconst 1, 1) := by decide +kernel
theorem dX7_ends_61 : decode cX7_ends 61 = .ok (.isub, 1) := by decide +kernel
theorem dX7_ends_62 : decode cX7_ends 62 = .ok (.putfield 54, 3) := by decide +kernel
theorem dX7_ends_65 : decode cX7_ends 65 = .ok (.aload_n 0, 1) := by decide +kernel
theorem dX7_ends_66 : decode cX7_ends 66 = .ok (.getfield 13, 3) := by decide +kernel
theorem dX7_ends_69 : decode cX7_ends 69 = .ok (.iconst 0, 1) := by decide +kernel
theorem dX7_ends_70 : decode cX7_ends 70 = .ok (.aload_n 0, 1) := by decide +kernel
theorem dX7_ends_71 : decode cX7_ends 71 = .ok (.getfield 22, 3) := by decide +kernel
theorem dX7_ends_74 : decode cX7_ends 74 = .ok (.sipush 130, 3) := by decide +kernel
theorem dX7_ends_77 : decode cX7_ends 77 = .ok (.aload_n 0, 1) := by decide +kernel
theorem dX7_ends_78 : decode cX7_ends 78 = .ok (.getfield 54, 3) := by decide +kernel
theorem dX7_ends_81 : decode cX7_ends 81 = .ok (.imul, 1) := by decide +kernel
theorem dX7_ends_82 : decode cX7_ends 82 = .ok (.invokestatic 50, 3) := by decide +kernel
theorem dX7_ends_85 : decode cX7_ends 85 = .ok (.aload_n 0, 1) := by decide +kernel
theorem dX7_ends_86 : decode cX7_ends 86 = .ok (.dup, 1) := by decide +kernel
theorem dX7_ends_87 : decode cX7_ends 87 = .ok (.getfield 54, 3) := by decide +kernel
theorem dX7_ends_90 : decode cX7_ends 90 = .ok (.iconst 1, 1) := by decide +kernel
theorem dX7_ends_91 : decode cX7_ends 91 = .ok (.iadd, 1) := by decide +kernel
theorem dX7_ends_92 : decode cX7_ends 92 = .ok (.putfield 54, 3) := by decide +kernel
theorem dX7_ends_95 : decode cX7_ends 95 = .ok (.iload_n 1, 1) := by decide +kernel
theorem dX7_ends_96 : decode cX7_ends 96 = .ok (.ireturn, 1) := by decide +kernel
theorem dX7_isThrown_0 : decode cX7_isThrown 0 = .ok (.aload_n 0, 1) := by decide +kernel
theorem dX7_isThrown_1 : decode cX7_isThrown 1 = .ok (.iload_n 1, 1) := by decide +kernel
theorem dX7_isThrown_2 : decode cX7_isThrown 2 = .ok (.ifCond .eq 7, 3) := by decide +kernel
theorem dX7_isThrown_5 : decode cX7_isThrown 5 = .ok (.iload_n 2, 1) := by decide +kernel
theorem dX7_isThrown_6 : decode cX7_isThrown 6 = .ok (.goto 4, 3) := by decide +kernel
theorem dX7_isThrown_9 : decode cX7_isThrown 9 = .ok (.iconst 0, 1) := by decide +kernel
theorem dX7_isThrown_10 : decode cX7_isThrown 10 = .ok (.putfield 47, 3) := by decide +kernel
theorem dX7_isThrown_13 : decode cX7_isThrown 13 = .ok (.iload_n 1, 1) := by decide +kernel
theorem dX7_isThrown_14 : decode cX7_isThrown 14 = .ok (.ireturn, 1) := by decide +kernel
theorem dX7_isJunction_0 : decode cX7_isJunction 0 = .ok (.iload_n 0, 1) := by decide +kernel
theorem dX7_isJunction_1 : decode cX7_isJunction 1 = .ok (.iconst 0, 1) := by decide +kernel
theorem dX7_isJunction_2 : decode cX7_isJunction 2 = .ok (.bipush 7, 2) := by decide +kernel
theorem dX7_isJunction_4 : decode cX7_isJunction 4 = .ok (.invokestatic 57, 3) := by decide +kernel
theorem dX7_isJunction_7 : decode cX7_isJunction 7 = .ok (.ireturn, 1) := by decide +kernel
theorem dX7_isStreet_0 : decode cX7_isStreet 0 = .ok (.iload_n 1, 1) := by decide +kernel
theorem dX7_isStreet_1 : decode cX7_isStreet 1 = .ok (.iconst 0, 1) := by decide +kernel
theorem dX7_isStreet_2 : decode cX7_isStreet 2 = .ok (.aload_n 0, 1) := by decide +kernel
theorem dX7_isStreet_3 : decode cX7_isStreet 3 = .ok (.getfield 9, 3) := by decide +kernel
theorem dX7_isStreet_6 : decode cX7_isStreet 6 = .ok (.iconst 1, 1) := by decide +kernel
theorem dX7_isStreet_7 : decode cX7_isStreet 7 = .ok (.iaload, 1) := by decide +kernel
theorem dX7_isStreet_8 : decode cX7_isStreet 8 = .ok (.iconst 1, 1) := by decide +kernel
theorem dX7_isStreet_9 : decode cX7_isStreet 9 = .ok (.isub, 1) := by decide +kernel
theorem dX7_isStreet_10 : decode cX7_isStreet 10 = .ok (.invokestatic 57, 3) := by decide +kernel
theorem dX7_isStreet_13 : decode cX7_isStreet 13 = .ok (.ireturn, 1) := by decide +kernel
theorem dX7_isPlough_0 : decode cX7_isPlough 0 = .ok (.iload_n 1, 1) := by decide +kernel
theorem dX7_isPlough_1 : decode cX7_isPlough 1 = .ok (.iconst 0, 1) := by decide +kernel
theorem dX7_isPlough_2 : decode cX7_isPlough 2 = .ok (.aload_n 0, 1) := by decide +kernel
theorem dX7_isPlough_3 : decode cX7_isPlough 3 = .ok (.getfield 9, 3) := by decide +kernel
theorem dX7_isPlough_6 : decode cX7_isPlough 6 = .ok (.iconst 2, 1) := by decide +kernel
theorem dX7_isPlough_7 : decode cX7_isPlough 7 = .ok (.iaload, 1) := by decide +kernel
theorem dX7_isPlough_8 : decode cX7_isPlough 8 = .ok (.iconst 1, 1) := by decide +kernel
theorem dX7_isPlough_9 : decode cX7_isPlough 9 = .ok (.isub, 1) := by decide +kernel
theorem dX7_isPlough_10 : decode cX7_isPlough 10 = .ok (.invokestatic 57, 3) := by decide +kernel
theorem dX7_isPlough_13 : decode cX7_isPlough 13 = .ok (.ireturn, 1) := by decide +kernel
theorem dX7_of_0 : decode cX7_of 0 = .ok (.aload_n 0, 1) := by decide +kernel
theorem dX7_of_1 : decode cX7_of 1 = .ok (.getfield 9, 3) := by decide +kernel
theorem dX7_of_4 : decode cX7_of 4 = .ok (.bipush 10, 2) := by decide +kernel
theorem dX7_of_6 : decode cX7_of 6 = .ok (.bipush 7, 2) := by decide +kernel
theorem dX7_of_8 : decode cX7_of 8 = .ok (.iload_n 1, 1) := by decide +kernel
theorem dX7_of_9 : decode cX7_of 9 = .ok (.imul, 1) := by decide +kernel
theorem dX7_of_10 : decode cX7_of 10 = .ok (.iadd, 1) := by decide +kernel
theorem dX7_of_11 : decode cX7_of 11 = .ok (.iload_n 2, 1) := by decide +kernel
theorem dX7_of_12 : decode cX7_of 12 = .ok (.iadd, 1) := by decide +kernel
theorem dX7_of_13 : decode cX7_of 13 = .ok (.iaload, 1) := by decide +kernel
theorem dX7_of_14 : decode cX7_of 14 = .ok (.ireturn, 1) := by decide +kernel
theorem dX7_sets_0 : decode cX7_sets 0 = .ok (.aload_n 0, 1) := by decide +kernel
theorem dX7_sets_1 : decode cX7_sets 1 = .ok (.getfield 9, 3) := by decide +kernel
theorem dX7_sets_4 : decode cX7_sets 4 = .ok (.bipush 10, 2) := by decide +kernel
theorem dX7_sets_6 : decode cX7_sets 6 = .ok (.bipush 7, 2) := by decide +kernel
theorem dX7_sets_8 : decode cX7_sets 8 = .ok (.iload_n 1, 1) := by decide +kernel
theorem dX7_sets_9 : decode cX7_sets 9 = .ok (.imul, 1) := by decide +kernel
theorem dX7_sets_10 : decode cX7_sets 10 = .ok (.iadd, 1) := by decide +kernel
theorem dX7_sets_11 : decode cX7_sets 11 = .ok (.iload_n 2, 1) := by decide +kernel
theorem dX7_sets_12 : decode cX7_sets 12 = .ok (.iadd, 1) := by decide +kernel
theorem dX7_sets_13 : decode cX7_sets 13 = .ok (.iload_n 3, 1) := by decide +kernel
theorem dX7_sets_14 : decode cX7_sets 14 = .ok (.iastore, 1) := by decide +kernel
theorem dX7_sets_15 : decode cX7_sets 15 = .ok (.return_, 1) := by decide +kernel
theorem dX7_ofPlough_0 : decode cX7_ofPlough 0 = .ok (.aload_n 0, 1) := by decide +kernel
theorem dX7_ofPlough_1 : decode cX7_ofPlough 1 = .ok (.getfield 9, 3) := by decide +kernel
theorem dX7_ofPlough_4 : decode cX7_ofPlough 4 = .ok (.bipush 94, 2) := by decide +kernel
theorem dX7_ofPlough_6 : decode cX7_ofPlough 6 = .ok (.bipush 9, 2) := by decide +kernel
theorem dX7_ofPlough_8 : decode cX7_ofPlough 8 = .ok (.iload_n 1, 1) := by decide +kernel
theorem dX7_ofPlough_9 : decode cX7_ofPlough 9 = .ok (.imul, 1) := by decide +kernel
theorem dX7_ofPlough_10 : decode cX7_ofPlough 10 = .ok (.iadd, 1) := by decide +kernel
theorem dX7_ofPlough_11 : decode cX7_ofPlough 11 = .ok (.iload_n 2, 1) := by decide +kernel
theorem dX7_ofPlough_12 : decode cX7_ofPlough 12 = .ok (.iadd, 1) := by decide +kernel
theorem dX7_ofPlough_13 : decode cX7_ofPlough 13 = .ok (.iaload, 1) := by decide +kernel
theorem dX7_ofPlough_14 : decode cX7_ofPlough 14 = .ok (.ireturn, 1) := by decide +kernel
theorem dX7_setsPlough_0 : decode cX7_setsPlough 0 = .ok (.aload_n 0, 1) := by decide +kernel
theorem dX7_setsPlough_1 : decode cX7_setsPlough 1 = .ok (.getfield 9, 3) := by decide +kernel
theorem dX7_setsPlough_4 : decode cX7_setsPlough 4 = .ok (.bipush 94, 2) := by decide +kernel
theorem dX7_setsPlough_6 : decode cX7_setsPlough 6 = .ok (.bipush 9, 2) := by decide +kernel
theorem dX7_setsPlough_8 : decode cX7_setsPlough 8 = .ok (.iload_n 1, 1) := by decide +kernel
theorem dX7_setsPlough_9 : decode cX7_setsPlough 9 = .ok (.imul, 1) := by decide +kernel
theorem dX7_setsPlough_10 : decode cX7_setsPlough 10 = .ok (.iadd, 1) := by decide +kernel
theorem dX7_setsPlough_11 : decode cX7_setsPlough 11 = .ok (.iload_n 2, 1) := by decide +kernel
theorem dX7_setsPlough_12 : decode cX7_setsPlough 12 = .ok (.iadd, 1) := by decide +kernel
theorem dX7_setsPlough_13 : decode cX7_setsPlough 13 = .ok (.iload_n 3, 1) := by decide +kernel
theorem dX7_setsPlough_14 : decode cX7_setsPlough 14 = .ok (.iastore, 1) := by decide +kernel
theorem dX7_setsPlough_15 : decode cX7_setsPlough 15 = .ok (.return_, 1) := by decide +kernel
theorem dX7_limit_0 : decode cX7_limit 0 = .ok (.iconst 5, 1) := by decide +kernel
theorem dX7_limit_1 : decode cX7_limit 1 = .ok (.aload_n 0, 1) := by decide +kernel
theorem dX7_limit_2 : decode cX7_limit 2 = .ok (.iload_n 1, 1) := by decide +kernel
theorem dX7_limit_3 : decode cX7_limit 3 = .ok (.iconst 2, 1) := by decide +kernel
theorem dX7_limit_4 : decode cX7_limit 4 = .ok (.invokevirtual 61, 3) := by decide +kernel
theorem dX7_limit_7 : decode cX7_limit 7 = .ok (.bipush 97, 2) := by decide +kernel
theorem dX7_limit_9 : decode cX7_limit 9 = .ok (.isub, 1) := by decide +kernel
theorem dX7_limit_10 : decode cX7_limit 10 = .ok (.iconst 1, 1) := by decide +kernel
theorem dX7_limit_11 : decode cX7_limit 11 = .ok (.iadd, 1) := by decide +kernel
theorem dX7_limit_12 : decode cX7_limit 12 = .ok (.imul, 1) := by decide +kernel
theorem dX7_limit_13 : decode cX7_limit 13 = .ok (.ireturn, 1) := by decide +kernel
theorem dX7_overdue_0 : decode cX7_overdue 0 = .ok (.aload_n 0, 1) := by decide +kernel
theorem dX7_overdue_1 : decode cX7_overdue 1 = .ok (.iload_n 1, 1) := by decide +kernel
theorem dX7_overdue_2 : decode cX7_overdue 2 = .ok (.iconst 4, 1) := by decide +kernel
theorem dX7_overdue_3 : decode cX7_overdue 3 = .ok (.invokevirtual 61, 3) := by decide +kernel
theorem dX7_overdue_6 : decode cX7_overdue 6 = .ok (.aload_n 0, 1) := by decide +kernel
theorem dX7_overdue_7 : decode cX7_overdue 7 = .ok (.iload_n 1, 1) := by decide +kernel
theorem dX7_overdue_8 : decode cX7_overdue 8 = .ok (.invokevirtual 65, 3) := by decide +kernel
theorem dX7_overdue_11 : decode cX7_overdue 11 = .ok (.if_icmp .le 7, 3) := by decide +kernel
theorem dX7_overdue_14 : decode cX7_overdue 14 = .ok (.iconst 1, 1) := by decide +kernel
theorem dX7_overdue_15 : decode cX7_overdue 15 = .ok (.goto 4, 3) := by decide +kernel
theorem dX7_overdue_18 : decode cX7_overdue 18 = .ok (.iconst 0, 1) := by decide +kernel
theorem dX7_overdue_19 : decode cX7_overdue 19 = .ok (.ireturn, 1) := by decide +kernel
theorem dX7_salted_0 : decode cX7_salted 0 = .ok (.aload_n 0, 1) := by decide +kernel
theorem dX7_salted_1 : decode cX7_salted 1 = .ok (.getfield 9, 3) := by decide +kernel
theorem dX7_salted_4 : decode cX7_salted 4 = .ok (.iconst 0, 1) := by decide +kernel
theorem dX7_salted_5 : decode cX7_salted 5 = .ok (.iaload, 1) := by decide +kernel
theorem dX7_salted_6 : decode cX7_salted 6 = .ok (.aload_n 0, 1) := by decide +kernel
theorem dX7_salted_7 : decode cX7_salted 7 = .ok (.iload_n 1, 1) := by decide +kernel
theorem dX7_salted_8 : decode cX7_salted 8 = .ok (.iconst 5, 1) := by decide +kernel
theorem dX7_salted_9 : decode cX7_salted 9 = .ok (.invokevirtual 61, 3) := by decide +kernel
theorem dX7_salted_12 : decode cX7_salted 12 = .ok (.if_icmp .ge 7, 3) := by decide +kernel
theorem dX7_salted_15 : decode cX7_salted 15 = .ok (.iconst 1, 1) := by decide +kernel
theorem dX7_salted_16 : decode cX7_salted 16 = .ok (.goto 4, 3) := by decide +kernel
theorem dX7_salted_19 : decode cX7_salted 19 = .ok (.iconst 0, 1) := by decide +kernel
theorem dX7_salted_20 : decode cX7_salted 20 = .ok (.ireturn, 1) := by decide +kernel
theorem dX7_joins_0 : decode cX7_joins 0 = .ok (.iconst 0, 1) := by decide +kernel
theorem dX7_joins_1 : decode cX7_joins 1 = .ok (.istore_n 3, 1) := by decide +kernel
theorem dX7_joins_2 : decode cX7_joins 2 = .ok (.iload_n 3, 1) := by decide +kernel
theorem dX7_joins_3 : decode cX7_joins 3 = .ok (.aload_n 0, 1) := by decide +kernel
theorem dX7_joins_4 : decode cX7_joins 4 = .ok (.getfield 9, 3) := by decide +kernel
theorem dX7_joins_7 : decode cX7_joins 7 = .ok (.iconst 1, 1) := by decide +kernel
theorem dX7_joins_8 : decode cX7_joins 8 = .ok (.iaload, 1) := by decide +kernel
theorem dX7_joins_9 : decode cX7_joins 9 = .ok (.if_icmp .ge 39, 3) := by decide +kernel
theorem dX7_joins_12 : decode cX7_joins 12 = .ok (.aload_n 0, 1) := by decide +kernel
theorem dX7_joins_13 : decode cX7_joins 13 = .ok (.iload_n 3, 1) := by decide +kernel
theorem dX7_joins_14 : decode cX7_joins 14 = .ok (.iconst 0, 1) := by decide +kernel
theorem dX7_joins_15 : decode cX7_joins 15 = .ok (.invokevirtual 61, 3) := by decide +kernel
theorem dX7_joins_18 : decode cX7_joins 18 = .ok (.iload_n 1, 1) := by decide +kernel
theorem dX7_joins_19 : decode cX7_joins 19 = .ok (.iload_n 2, 1) := by decide +kernel
theorem dX7_joins_20 : decode cX7_joins 20 = .ok (.invokestatic 69, 3) := by decide +kernel
theorem dX7_joins_23 : decode cX7_joins 23 = .ok (.if_icmp .ne 19, 3) := by decide +kernel
theorem dX7_joins_26 : decode cX7_joins 26 = .ok (.aload_n 0, 1) := by decide +kernel
theorem dX7_joins_27 : decode cX7_joins 27 = .ok (.iload_n 3, 1) := by decide +kernel
theorem dX7_joins_28 : decode cX7_joins 28 = .ok (.iconst 1, 1) := by decide +kernel
theorem dX7_joins_29 : decode cX7_joins 29 = .ok (.invokevirtual 61, 3) := by decide +kernel
theorem dX7_joins_32 : decode cX7_joins 32 = .ok (.iload_n 1, 1) := by decide +kernel
theorem dX7_joins_33 : decode cX7_joins 33 = .ok (.iload_n 2, 1) := by decide +kernel
theorem dX7_joins_34 : decode cX7_joins 34 = .ok (.invokestatic 72, 3) := by decide +kernel
theorem dX7_joins_37 : decode cX7_joins 37 = .ok (.if_icmp .ne 5, 3) := by decide +kernel
theorem dX7_joins_40 : decode cX7_joins 40 = .ok (.iconst 1, 1) := by decide +kernel
theorem dX7_joins_41 : decode cX7_joins 41 = .ok (.ireturn, 1) := by decide +kernel
theorem dX7_joins_42 : decode cX7_joins 42 = .ok (.iinc 3 1, 3) := by decide +kernel
theorem dX7_joins_45 : decode cX7_joins 45 = .ok (.goto (-43), 3) := by decide +kernel
theorem dX7_joins_48 : decode cX7_joins 48 = .ok (.iconst 0, 1) := by decide +kernel
theorem dX7_joins_49 : decode cX7_joins 49 = .ok (.ireturn, 1) := by decide +kernel
theorem dX7_streets_0 : decode cX7_streets 0 = .ok (.aload_n 0, 1) := by decide +kernel
theorem dX7_streets_1 : decode cX7_streets 1 = .ok (.iload_n 1, 1) := by decide +kernel
theorem dX7_streets_2 : decode cX7_streets 2 = .ok (.invokestatic 75, 3) := by decide +kernel
theorem dX7_streets_5 : decode cX7_streets 5 = .ok (.ifCond .eq 10, 3) := by decide +kernel
theorem dX7_streets_8 : decode cX7_streets 8 = .ok (.iload_n 2, 1) := by decide +kernel
theorem dX7_streets_9 : decode cX7_streets 9 = .ok (.invokestatic 75, 3) := by decide +kernel
theorem dX7_streets_12 : decode cX7_streets 12 = .ok (.ifCond .ne 7, 3) := by decide +kernel
theorem dX7_streets_15 : decode cX7_streets 15 = .ok (.iconst 1, 1) := by decide +kernel
theorem dX7_streets_16 : decode cX7_streets 16 = .ok (.goto 4, 3) := by decide +kernel
theorem dX7_streets_19 : decode cX7_streets 19 = .ok (.iconst 0, 1) := by decide +kernel
theorem dX7_streets_20 : decode cX7_streets 20 = .ok (.iconst 1, 1) := by decide +kernel
theorem dX7_streets_21 : decode cX7_streets 21 = .ok (.invokevirtual 79, 3) := by decide +kernel
theorem dX7_streets_24 : decode cX7_streets 24 = .ok (.ifCond .ne 76, 3) := by decide +kernel
theorem dX7_streets_27 : decode cX7_streets 27 = .ok (.aload_n 0, 1) := by decide +kernel
theorem dX7_streets_28 : decode cX7_streets 28 = .ok (.iload_n 1, 1) := by decide +kernel
theorem dX7_streets_29 : decode cX7_streets 29 = .ok (.iload_n 2, 1) := by decide +kernel
theorem dX7_streets_30 : decode cX7_streets 30 = .ok (.if_icmp .eq 25, 3) := by decide +kernel
theorem dX7_streets_33 : decode cX7_streets 33 = .ok (.iload_n 3, 1) := by decide +kernel
theorem dX7_streets_34 : decode cX7_streets 34 = .ok (.bipush 97, 2) := by decide +kernel
theorem dX7_streets_36 : decode cX7_streets 36 = .ok (.bipush 99, 2) := by decide +kernel
theorem dX7_streets_38 : decode cX7_streets 38 = .ok (.invokestatic 57, 3) := by decide +kernel
theorem dX7_streets_41 : decode cX7_streets 41 = .ok (.ifCond .eq 14, 3) := by decide +kernel
theorem dX7_streets_44 : decode cX7_streets 44 = .ok (.iload 4, 2) := by decide +kernel
theorem dX7_streets_46 : decode cX7_streets 46 = .ok (.iconst 1, 1) := by decide +kernel
theorem dX7_streets_47 : decode cX7_streets 47 = .ok (.bipush 9, 2) := by decide +kernel
theorem dX7_streets_49 : decode cX7_streets 49 = .ok (.invokestatic 57, 3) := by decide +kernel
theorem dX7_streets_52 : decode cX7_streets 52 = .ok (.ifCond .ne 7, 3) := by decide +kernel
theorem dX7_streets_55 : decode cX7_streets 55 = .ok (.iconst 1, 1) := by decide +kernel
theorem dX7_streets_56 : decode cX7_streets 56 = .ok (.goto 4, 3) := by decide +kernel
theorem dX7_streets_59 : decode cX7_streets 59 = .ok (.iconst 0, 1) := by decide +kernel
theorem dX7_streets_60 : decode cX7_streets 60 = .ok (.iconst 2, 1) := by decide +kernel
theorem dX7_streets_61 : decode cX7_streets 61 = .ok (.invokevirtual 79, 3) := by decide +kernel
theorem dX7_streets_64 : decode cX7_streets 64 = .ok (.ifCond .ne 36, 3) := by decide +kernel
theorem dX7_streets_67 : decode cX7_streets 67 = .ok (.aload_n 0, 1) := by decide +kernel
theorem dX7_streets_68 : decode cX7_streets 68 = .ok (.aload_n 0, 1) := by decide +kernel
theorem dX7_streets_69 : decode cX7_streets 69 = .ok (.getfield 9, 3) := by decide +kernel
theorem dX7_streets_72 : decode cX7_streets 72 = .ok (.iconst 1, 1) := by decide +kernel
theorem dX7_streets_73 : decode cX7_streets 73 = .ok (.iaload, 1) := by decide +kernel
theorem dX7_streets_74 : decode cX7_streets 74 = .ok (.bipush 12, 2) := by decide +kernel
theorem dX7_streets_76 : decode cX7_streets 76 = .ok (.if_icmp .eq 12, 3) := by decide +kernel
theorem dX7_streets_79 : decode cX7_streets 79 = .ok (.aload_n 0, 1) := by decide +kernel
theorem dX7_streets_80 : decode cX7_streets 80 = .ok (.iload_n 1, 1) := by decide +kernel
theorem dX7_streets_81 : decode cX7_streets 81 = .ok (.iload_n 2, 1) := by decide +kernel
theorem dX7_streets_82 : decode cX7_streets 82 = .ok (.invokevirtual 83, 3) := by decide +kernel
theorem dX7_streets_85 : decode cX7_streets 85 = .ok (.ifCond .eq 7, 3) := by decide +kernel
theorem dX7_streets_88 : decode cX7_streets 88 = .ok (.iconst 1, 1) := by decide +kernel
theorem dX7_streets_89 : decode cX7_streets 89 = .ok (.goto 4, 3) := by decide +kernel
theorem dX7_streets_92 : decode cX7_streets 92 = .ok (.iconst 0, 1) := by decide +kernel
theorem dX7_streets_93 : decode cX7_streets 93 = .ok (.iconst 3, 1) := by decide +kernel
theorem dX7_streets_94 : decode cX7_streets 94 = .ok (.invokevirtual 79, 3) := by decide +kernel
theorem dX7_streets_97 : decode cX7_streets 97 = .ok (.ifCond .eq 5, 3) := by decide +kernel
theorem dX7_streets_100 : decode cX7_streets 100 = .ok (.iconst 0, 1) := by decide +kernel
theorem dX7_streets_101 : decode cX7_streets 101 = .ok (.ireturn, 1) := by decide +kernel
theorem dX7_streets_102 : decode cX7_streets 102 = .ok (.aload_n 0, 1) := by decide +kernel
theorem dX7_streets_103 : decode cX7_streets 103 = .ok (.getfield 9, 3) := by decide +kernel
theorem dX7_streets_106 : decode cX7_streets 106 = .ok (.iconst 1, 1) := by decide +kernel
theorem dX7_streets_107 : decode cX7_streets 107 = .ok (.iaload, 1) := by decide +kernel
theorem dX7_streets_108 : decode cX7_streets 108 = .ok (.istore 5, 2) := by decide +kernel
theorem dX7_streets_110 : decode cX7_streets 110 = .ok (.aload_n 0, 1) := by decide +kernel
theorem dX7_streets_111 : decode cX7_streets 111 = .ok (.iload 5, 2) := by decide +kernel
theorem dX7_streets_113 : decode cX7_streets 113 = .ok (.iconst 0, 1) := by decide +kernel
theorem dX7_streets_114 : decode cX7_streets 114 = .ok (.iload_n 1, 1) := by decide +kernel
theorem dX7_streets_115 : decode cX7_streets 115 = .ok (.iload_n 2, 1) := by decide +kernel
theorem dX7_streets_116 : decode cX7_streets 116 = .ok (.invokestatic 69, 3) := by decide +kernel
theorem dX7_streets_119 : decode cX7_streets 119 = .ok (.invokevirtual 87, 3) := by decide +kernel
theorem dX7_streets_122 : decode cX7_streets 122 = .ok (.aload_n 0, 1) := by decide +kernel
theorem dX7_streets_123 : decode cX7_streets 123 = .ok (.iload 5, 2) := by decide +kernel
theorem dX7_streets_125 : decode cX7_streets 125 = .ok (.iconst 1, 1) := by decide +kernel
theorem dX7_streets_126 : decode cX7_streets 126 = .ok (.iload_n 1, 1) := by decide +kernel
theorem dX7_streets_127 : decode cX7_streets 127 = .ok (.iload_n 2, 1) := by decide +kernel
theorem dX7_streets_128 : decode cX7_streets 128 = .ok (.invokestatic 72, 3) := by decide +kernel
theorem dX7_streets_131 : decode cX7_streets 131 = .ok (.invokevirtual 87, 3) := by decide +kernel
theorem dX7_streets_134 : decode cX7_streets 134 = .ok (.aload_n 0, 1) := by decide +kernel
theorem dX7_streets_135 : decode cX7_streets 135 = .ok (.iload 5, 2) := by decide +kernel
theorem dX7_streets_137 : decode cX7_streets 137 = .ok (.iconst 2, 1) := by decide +kernel
theorem dX7_streets_138 : decode cX7_streets 138 = .ok (.iload_n 3, 1) := by decide +kernel
theorem dX7_streets_139 : decode cX7_streets 139 = .ok (.invokevirtual 87, 3) := by decide +kernel
theorem dX7_streets_142 : decode cX7_streets 142 = .ok (.aload_n 0, 1) := by decide +kernel
theorem dX7_streets_143 : decode cX7_streets 143 = .ok (.iload 5, 2) := by decide +kernel
theorem dX7_streets_145 : decode cX7_streets 145 = .ok (.iconst 3, 1) := by decide +kernel
theorem dX7_streets_146 : decode cX7_streets 146 = .ok (.iload 4, 2) := by decide +kernel
theorem dX7_streets_148 : decode cX7_streets 148 = .ok (.invokevirtual 87, 3) := by decide +kernel
theorem dX7_streets_151 : decode cX7_streets 151 = .ok (.aload_n 0, 1) := by decide +kernel
theorem dX7_streets_152 : decode cX7_streets 152 = .ok (.getfield 9, 3) := by decide +kernel
theorem dX7_streets_155 : decode cX7_streets 155 = .ok (.iconst 1, 1) := by decide +kernel
theorem dX7_streets_156 : decode cX7_streets 156 = .ok (.dup2, 1) := by decide +kernel
theorem dX7_streets_157 : decode cX7_streets 157 = .ok (.iaload, 1) := by decide +kernel
theorem dX7_streets_158 : decode cX7_streets 158 = .ok (.iconst 1, 1) := by decide +kernel
theorem dX7_streets_159 : decode cX7_streets 159 = .ok (.iadd, 1) := by decide +kernel
theorem dX7_streets_160 : decode cX7_streets 160 = .ok (.iastore, 1) := by decide +kernel
theorem dX7_streets_161 : decode cX7_streets 161 = .ok (.iload 5, 2) := by decide +kernel
theorem dX7_streets_163 : decode cX7_streets 163 = .ok (.ireturn, 1) := by decide +kernel
theorem dX7_addStreet_0 : decode cX7_addStreet 0 = .ok (.aload_n 0, 1) := by decide +kernel
theorem dX7_addStreet_1 : decode cX7_addStreet 1 = .ok (.invokevirtual 91, 3) := by decide +kernel
theorem dX7_addStreet_4 : decode cX7_addStreet 4 = .ok (.aload_n 0, 1) := by decide +kernel
theorem dX7_addStreet_5 : decode cX7_addStreet 5 = .ok (.aload_n 0, 1) := by decide +kernel
theorem dX7_addStreet_6 : decode cX7_addStreet 6 = .ok (.iload_n 1, 1) := by decide +kernel
theorem dX7_addStreet_7 : decode cX7_addStreet 7 = .ok (.iload_n 2, 1) := by decide +kernel
theorem dX7_addStreet_8 : decode cX7_addStreet 8 = .ok (.iload_n 3, 1) := by decide +kernel
theorem dX7_addStreet_9 : decode cX7_addStreet 9 = .ok (.iload 4, 2) := by decide +kernel
theorem dX7_addStreet_11 : decode cX7_addStreet 11 = .ok (.invokevirtual 94, 3) := by decide +kernel
theorem dX7_addStreet_14 : decode cX7_addStreet 14 = .ok (.invokevirtual 98, 3) := by decide +kernel
theorem dX7_addStreet_17 : decode cX7_addStreet 17 = .ok (.ireturn, 1) := by decide +kernel
theorem dX7_ploughs_0 : decode cX7_ploughs 0 = .ok (.aload_n 0, 1) := by decide +kernel
theorem dX7_ploughs_1 : decode cX7_ploughs 1 = .ok (.iload_n 1, 1) := by decide +kernel
theorem dX7_ploughs_2 : decode cX7_ploughs 2 = .ok (.invokestatic 75, 3) := by decide +kernel
theorem dX7_ploughs_5 : decode cX7_ploughs 5 = .ok (.ifCond .ne 7, 3) := by decide +kernel
theorem dX7_ploughs_8 : decode cX7_ploughs 8 = .ok (.iconst 1, 1) := by decide +kernel
theorem dX7_ploughs_9 : decode cX7_ploughs 9 = .ok (.goto 4, 3) := by decide +kernel
theorem dX7_ploughs_12 : decode cX7_ploughs 12 = .ok (.iconst 0, 1) := by decide +kernel
theorem dX7_ploughs_13 : decode cX7_ploughs 13 = .ok (.iconst 1, 1) := by decide +kernel
theorem dX7_ploughs_14 : decode cX7_ploughs 14 = .ok (.invokevirtual 79, 3) := by decide +kernel
theorem dX7_ploughs_17 : decode cX7_ploughs 17 = .ok (.ifCond .ne 26, 3) := by decide +kernel
theorem dX7_ploughs_20 : decode cX7_ploughs 20 = .ok (.aload_n 0, 1) := by decide +kernel
theorem dX7_ploughs_21 : decode cX7_ploughs 21 = .ok (.aload_n 0, 1) := by decide +kernel
theorem dX7_ploughs_22 : decode cX7_ploughs 22 = .ok (.getfield 9, 3) := by decide +kernel
theorem dX7_ploughs_25 : decode cX7_ploughs 25 = .ok (.iconst 2, 1) := by decide +kernel
theorem dX7_ploughs_26 : decode cX7_ploughs 26 = .ok (.iaload, 1) := by decide +kernel
theorem dX7_ploughs_27 : decode cX7_ploughs 27 = .ok (.iconst 4, 1) := by decide +kernel
theorem dX7_ploughs_28 : decode cX7_ploughs 28 = .ok (.if_icmp .ne 7, 3) := by decide +kernel
theorem dX7_ploughs_31 : decode cX7_ploughs 31 = .ok (.iconst 1, 1) := by decide +kernel
theorem dX7_ploughs_32 : decode cX7_ploughs 32 = .ok (.goto 4, 3) := by decide +kernel
theorem dX7_ploughs_35 : decode cX7_ploughs 35 = .ok (.iconst 0, 1) := by decide +kernel
theorem dX7_ploughs_36 : decode cX7_ploughs 36 = .ok (.iconst 2, 1) := by decide +kernel
theorem dX7_ploughs_37 : decode cX7_ploughs 37 = .ok (.invokevirtual 79, 3) := by decide +kernel
theorem dX7_ploughs_40 : decode cX7_ploughs 40 = .ok (.ifCond .eq 5, 3) := by decide +kernel
theorem dX7_ploughs_43 : decode cX7_ploughs 43 = .ok (.iconst 0, 1) := by decide +kernel
theorem dX7_ploughs_44 : decode cX7_ploughs 44 = .ok (.ireturn, 1) := by decide +kernel
theorem dX7_ploughs_45 : decode cX7_ploughs 45 = .ok (.aload_n 0, 1) := by decide +kernel
theorem dX7_ploughs_46 : decode cX7_ploughs 46 = .ok (.aload_n 0, 1) := by decide +kernel
theorem dX7_ploughs_47 : decode cX7_ploughs 47 = .ok (.getfield 9, 3) := by decide +kernel
theorem dX7_ploughs_50 : decode cX7_ploughs 50 = .ok (.iconst 2, 1) := by decide +kernel
theorem dX7_ploughs_51 : decode cX7_ploughs 51 = .ok (.iaload, 1) := by decide +kernel
theorem dX7_ploughs_52 : decode cX7_ploughs 52 = .ok (.iconst 0, 1) := by decide +kernel
theorem dX7_ploughs_53 : decode cX7_ploughs 53 = .ok (.iload_n 1, 1) := by decide +kernel
theorem dX7_ploughs_54 : decode cX7_ploughs 54 = .ok (.invokevirtual 101, 3) := by decide +kernel
theorem dX7_ploughs_57 : decode cX7_ploughs 57 = .ok (.aload_n 0, 1) := by decide +kernel
theorem dX7_ploughs_58 : decode cX7_ploughs 58 = .ok (.getfield 9, 3) := by decide +kernel
theorem dX7_ploughs_61 : decode cX7_ploughs 61 = .ok (.iconst 2, 1) := by decide +kernel
theorem dX7_ploughs_62 : decode cX7_ploughs 62 = .ok (.dup2, 1) := by decide +kernel
theorem dX7_ploughs_63 : decode cX7_ploughs 63 = .ok (.iaload, 1) := by decide +kernel
theorem dX7_ploughs_64 : decode cX7_ploughs 64 = .ok (.iconst 1, 1) := by decide +kernel
theorem dX7_ploughs_65 : decode cX7_ploughs 65 = .ok (.iadd, 1) := by decide +kernel
theorem dX7_ploughs_66 : decode cX7_ploughs 66 = .ok (.iastore, 1) := by decide +kernel
theorem dX7_ploughs_67 : decode cX7_ploughs 67 = .ok (.aload_n 0, 1) := by decide +kernel
theorem dX7_ploughs_68 : decode cX7_ploughs 68 = .ok (.getfield 9, 3) := by decide +kernel
theorem dX7_ploughs_71 : decode cX7_ploughs 71 = .ok (.iconst 2, 1) := by decide +kernel
theorem dX7_ploughs_72 : decode cX7_ploughs 72 = .ok (.iaload, 1) := by decide +kernel
theorem dX7_ploughs_73 : decode cX7_ploughs 73 = .ok (.iconst 1, 1) := by decide +kernel
theorem dX7_ploughs_74 : decode cX7_ploughs 74 = .ok (.isub, 1) := by decide +kernel
theorem dX7_ploughs_75 : decode cX7_ploughs 75 = .ok (.ireturn, 1) := by decide +kernel
theorem dX7_addPlough_0 : decode cX7_addPlough 0 = .ok (.aload_n 0, 1) := by decide +kernel
theorem dX7_addPlough_1 : decode cX7_addPlough 1 = .ok (.invokevirtual 91, 3) := by decide +kernel
theorem dX7_addPlough_4 : decode cX7_addPlough 4 = .ok (.aload_n 0, 1) := by decide +kernel
theorem dX7_addPlough_5 : decode cX7_addPlough 5 = .ok (.aload_n 0, 1) := by decide +kernel
theorem dX7_addPlough_6 : decode cX7_addPlough 6 = .ok (.iload_n 1, 1) := by decide +kernel
theorem dX7_addPlough_7 : decode cX7_addPlough 7 = .ok (.invokevirtual 104, 3) := by decide +kernel
theorem dX7_addPlough_10 : decode cX7_addPlough 10 = .ok (.invokevirtual 98, 3) := by decide +kernel
theorem dX7_addPlough_13 : decode cX7_addPlough 13 = .ok (.ireturn, 1) := by decide +kernel
theorem dX7_orders_0 : decode cX7_orders 0 = .ok (.aload_n 0, 1) := by decide +kernel
theorem dX7_orders_1 : decode cX7_orders 1 = .ok (.aload_n 0, 1) := by decide +kernel
theorem dX7_orders_2 : decode cX7_orders 2 = .ok (.iload_n 1, 1) := by decide +kernel
theorem dX7_orders_3 : decode cX7_orders 3 = .ok (.invokevirtual 107, 3) := by decide +kernel
theorem dX7_orders_6 : decode cX7_orders 6 = .ok (.ifCond .eq 11, 3) := by decide +kernel
theorem dX7_orders_9 : decode cX7_orders 9 = .ok (.aload_n 0, 1) := by decide +kernel
theorem dX7_orders_10 : decode cX7_orders 10 = .ok (.iload_n 2, 1) := by decide +kernel
theorem dX7_orders_11 : decode cX7_orders 11 = .ok (.invokevirtual 110, 3) := by decide +kernel
theorem dX7_orders_14 : decode cX7_orders 14 = .ok (.ifCond .ne 7, 3) := by decide +kernel
theorem dX7_orders_17 : decode cX7_orders 17 = .ok (.iconst 1, 1) := by decide +kernel
theorem dX7_orders_18 : decode cX7_orders 18 = .ok (.goto 4, 3) := by decide +kernel
theorem dX7_orders_21 : decode cX7_orders 21 = .ok (.iconst 0, 1) := by decide +kernel
theorem dX7_orders_22 : decode cX7_orders 22 = .ok (.iconst 1, 1) := by decide +kernel
theorem dX7_orders_23 : decode cX7_orders 23 = .ok (.invokevirtual 79, 3) := by decide +kernel
theorem dX7_orders_26 : decode cX7_orders 26 = .ok (.ifCond .ne 26, 3) := by decide +kernel
theorem dX7_orders_29 : decode cX7_orders 29 = .ok (.aload_n 0, 1) := by decide +kernel
theorem dX7_orders_30 : decode cX7_orders 30 = .ok (.aload_n 0, 1) := by decide +kernel
theorem dX7_orders_31 : decode cX7_orders 31 = .ok (.iload_n 1, 1) := by decide +kernel
theorem dX7_orders_32 : decode cX7_orders 32 = .ok (.iconst 3, 1) := by decide +kernel
theorem dX7_orders_33 : decode cX7_orders 33 = .ok (.invokevirtual 113, 3) := by decide +kernel
theorem dX7_orders_36 : decode cX7_orders 36 = .ok (.iconst 5, 1) := by decide +kernel
theorem dX7_orders_37 : decode cX7_orders 37 = .ok (.if_icmp .ne 7, 3) := by decide +kernel
theorem dX7_orders_40 : decode cX7_orders 40 = .ok (.iconst 1, 1) := by decide +kernel
theorem dX7_orders_41 : decode cX7_orders 41 = .ok (.goto 4, 3) := by decide +kernel
theorem dX7_orders_44 : decode cX7_orders 44 = .ok (.iconst 0, 1) := by decide +kernel
theorem dX7_orders_45 : decode cX7_orders 45 = .ok (.iconst 2, 1) := by decide +kernel
theorem dX7_orders_46 : decode cX7_orders 46 = .ok (.invokevirtual 79, 3) := by decide +kernel
theorem dX7_orders_49 : decode cX7_orders 49 = .ok (.ifCond .eq 5, 3) := by decide +kernel
theorem dX7_orders_52 : decode cX7_orders 52 = .ok (.iconst 0, 1) := by decide +kernel
theorem dX7_orders_53 : decode cX7_orders 53 = .ok (.ireturn, 1) := by decide +kernel
theorem dX7_orders_54 : decode cX7_orders 54 = .ok (.aload_n 0, 1) := by decide +kernel
theorem dX7_orders_55 : decode cX7_orders 55 = .ok (.iload_n 1, 1) := by decide +kernel
theorem dX7_orders_56 : decode cX7_orders 56 = .ok (.iconst 3, 1) := by decide +kernel
theorem dX7_orders_57 : decode cX7_orders 57 = .ok (.invokevirtual 113, 3) := by decide +kernel
theorem dX7_orders_60 : decode cX7_orders 60 = .ok (.istore_n 3, 1) := by decide +kernel
theorem dX7_orders_61 : decode cX7_orders 61 = .ok (.aload_n 0, 1) := by decide +kernel
theorem dX7_orders_62 : decode cX7_orders 62 = .ok (.iload_n 1, 1) := by decide +kernel
theorem dX7_orders_63 : decode cX7_orders 63 = .ok (.iconst 4, 1) := by decide +kernel
theorem dX7_orders_64 : decode cX7_orders 64 = .ok (.iload_n 3, 1) := by decide +kernel
theorem dX7_orders_65 : decode cX7_orders 65 = .ok (.iadd, 1) := by decide +kernel
theorem dX7_orders_66 : decode cX7_orders 66 = .ok (.iload_n 2, 1) := by decide +kernel
theorem dX7_orders_67 : decode cX7_orders 67 = .ok (.invokevirtual 101, 3) := by decide +kernel
theorem dX7_orders_70 : decode cX7_orders 70 = .ok (.aload_n 0, 1) := by decide +kernel
theorem dX7_orders_71 : decode cX7_orders 71 = .ok (.iload_n 1, 1) := by decide +kernel
theorem dX7_orders_72 : decode cX7_orders 72 = .ok (.iconst 3, 1) := by decide +kernel
theorem dX7_orders_73 : decode cX7_orders 73 = .ok (.iload_n 3, 1) := by decide +kernel
theorem dX7_orders_74 : decode cX7_orders 74 = .ok (.iconst 1, 1) := by decide +kernel
theorem dX7_orders_75 : decode cX7_orders 75 = .ok (.iadd, 1) := by decide +kernel
theorem dX7_orders_76 : decode cX7_orders 76 = .ok (.invokevirtual 101, 3) := by decide +kernel
theorem dX7_orders_79 : decode cX7_orders 79 = .ok (.iload_n 3, 1) := by decide +kernel
theorem dX7_orders_80 : decode cX7_orders 80 = .ok (.iconst 1, 1) := by decide +kernel
theorem dX7_orders_81 : decode cX7_orders 81 = .ok (.iadd, 1) := by decide +kernel
theorem dX7_orders_82 : decode cX7_orders 82 = .ok (.ireturn, 1) := by decide +kernel
theorem dX7_order_0 : decode cX7_order 0 = .ok (.aload_n 0, 1) := by decide +kernel
theorem dX7_order_1 : decode cX7_order 1 = .ok (.invokevirtual 91, 3) := by decide +kernel
theorem dX7_order_4 : decode cX7_order 4 = .ok (.aload_n 0, 1) := by decide +kernel
theorem dX7_order_5 : decode cX7_order 5 = .ok (.aload_n 0, 1) := by decide +kernel
theorem dX7_order_6 : decode cX7_order 6 = .ok (.iload_n 1, 1) := by decide +kernel
theorem dX7_order_7 : decode cX7_order 7 = .ok (.iload_n 2, 1) := by decide +kernel
theorem dX7_order_8 : decode cX7_order 8 = .ok (.invokevirtual 116, 3) := by decide +kernel
theorem dX7_order_11 : decode cX7_order 11 = .ok (.invokevirtual 98, 3) := by decide +kernel
theorem dX7_order_14 : decode cX7_order 14 = .ok (.ireturn, 1) := by decide +kernel
theorem dX7_cancels_0 : decode cX7_cancels 0 = .ok (.aload_n 0, 1) := by decide +kernel
theorem dX7_cancels_1 : decode cX7_cancels 1 = .ok (.aload_n 0, 1) := by decide +kernel
theorem dX7_cancels_2 : decode cX7_cancels 2 = .ok (.iload_n 1, 1) := by decide +kernel
theorem dX7_cancels_3 : decode cX7_cancels 3 = .ok (.invokevirtual 107, 3) := by decide +kernel
theorem dX7_cancels_6 : decode cX7_cancels 6 = .ok (.ifCond .ne 7, 3) := by decide +kernel
theorem dX7_cancels_9 : decode cX7_cancels 9 = .ok (.iconst 1, 1) := by decide +kernel
theorem dX7_cancels_10 : decode cX7_cancels 10 = .ok (.goto 4, 3) := by decide +kernel
theorem dX7_cancels_13 : decode cX7_cancels 13 = .ok (.iconst 0, 1) := by decide +kernel
theorem dX7_cancels_14 : decode cX7_cancels 14 = .ok (.iconst 1, 1) := by decide +kernel
theorem dX7_cancels_15 : decode cX7_cancels 15 = .ok (.invokevirtual 79, 3) := by decide +kernel
theorem dX7_cancels_18 : decode cX7_cancels 18 = .ok (.ifCond .ne 25, 3) := by decide +kernel
theorem dX7_cancels_21 : decode cX7_cancels 21 = .ok (.aload_n 0, 1) := by decide +kernel
theorem dX7_cancels_22 : decode cX7_cancels 22 = .ok (.aload_n 0, 1) := by decide +kernel
theorem dX7_cancels_23 : decode cX7_cancels 23 = .ok (.iload_n 1, 1) := by decide +kernel
theorem dX7_cancels_24 : decode cX7_cancels 24 = .ok (.iconst 3, 1) := by decide +kernel
theorem dX7_cancels_25 : decode cX7_cancels 25 = .ok (.invokevirtual 113, 3) := by decide +kernel
theorem dX7_cancels_28 : decode cX7_cancels 28 = .ok (.ifCond .ne 7, 3) := by decide +kernel
theorem dX7_cancels_31 : decode cX7_cancels 31 = .ok (.iconst 1, 1) := by decide +kernel
theorem dX7_cancels_32 : decode cX7_cancels 32 = .ok (.goto 4, 3) := by decide +kernel
theorem dX7_cancels_35 : decode cX7_cancels 35 = .ok (.iconst 0, 1) := by decide +kernel
theorem dX7_cancels_36 : decode cX7_cancels 36 = .ok (.iconst 2, 1) := by decide +kernel
theorem dX7_cancels_37 : decode cX7_cancels 37 = .ok (.invokevirtual 79, 3) := by decide +kernel
theorem dX7_cancels_40 : decode cX7_cancels 40 = .ok (.ifCond .eq 5, 3) := by decide +kernel
theorem dX7_cancels_43 : decode cX7_cancels 43 = .ok (.iconst 0, 1) := by decide +kernel
theorem dX7_cancels_44 : decode cX7_cancels 44 = .ok (.ireturn, 1) := by decide +kernel
theorem dX7_cancels_45 : decode cX7_cancels 45 = .ok (.aload_n 0, 1) := by decide +kernel
theorem dX7_cancels_46 : decode cX7_cancels 46 = .ok (.iload_n 1, 1) := by decide +kernel
theorem dX7_cancels_47 : decode cX7_cancels 47 = .ok (.iconst 3, 1) := by decide +kernel
theorem dX7_cancels_48 : decode cX7_cancels 48 = .ok (.invokevirtual 113, 3) := by decide +kernel
theorem dX7_cancels_51 : decode cX7_cancels 51 = .ok (.iconst 1, 1) := by decide +kernel
theorem dX7_cancels_52 : decode cX7_cancels 52 = .ok (.isub, 1) := by decide +kernel
theorem dX7_cancels_53 : decode cX7_cancels 53 = .ok (.istore_n 2, 1) := by decide +kernel
theorem dX7_cancels_54 : decode cX7_cancels 54 = .ok (.aload_n 0, 1) := by decide +kernel
theorem dX7_cancels_55 : decode cX7_cancels 55 = .ok (.iload_n 1, 1) := by decide +kernel
theorem dX7_cancels_56 : decode cX7_cancels 56 = .ok (.iconst 4, 1) := by decide +kernel
theorem dX7_cancels_57 : decode cX7_cancels 57 = .ok (.iload_n 2, 1) := by decide +kernel
theorem dX7_cancels_58 : decode cX7_cancels 58 = .ok (.iadd, 1) := by decide +kernel
theorem dX7_cancels_59 : decode cX7_cancels 59 = .ok (.invokevirtual 113, 3) := by decide +kernel
theorem dX7_cancels_62 : decode cX7_cancels 62 = .ok (.istore_n 3, 1) := by decide +kernel
theorem dX7_cancels_63 : decode cX7_cancels 63 = .ok (.aload_n 0, 1) := by decide +kernel
theorem dX7_cancels_64 : decode cX7_cancels 64 = .ok (.iload_n 1, 1) := by decide +kernel
theorem dX7_cancels_65 : decode cX7_cancels 65 = .ok (.iconst 4, 1) := by decide +kernel
theorem dX7_cancels_66 : decode cX7_cancels 66 = .ok (.iload_n 2, 1) := by decide +kernel
theorem dX7_cancels_67 : decode cX7_cancels 67 = .ok (.iadd, 1) := by decide +kernel
theorem dX7_cancels_68 : decode cX7_cancels 68 = .ok (.iconst 0, 1) := by decide +kernel
theorem dX7_cancels_69 : decode cX7_cancels 69 = .ok (.invokevirtual 101, 3) := by decide +kernel
theorem dX7_cancels_72 : decode cX7_cancels 72 = .ok (.aload_n 0, 1) := by decide +kernel
theorem dX7_cancels_73 : decode cX7_cancels 73 = .ok (.iload_n 1, 1) := by decide +kernel
theorem dX7_cancels_74 : decode cX7_cancels 74 = .ok (.iconst 3, 1) := by decide +kernel
theorem dX7_cancels_75 : decode cX7_cancels 75 = .ok (.iload_n 2, 1) := by decide +kernel
theorem dX7_cancels_76 : decode cX7_cancels 76 = .ok (.invokevirtual 101, 3) := by decide +kernel
theorem dX7_cancels_79 : decode cX7_cancels 79 = .ok (.iload_n 3, 1) := by decide +kernel
theorem dX7_cancels_80 : decode cX7_cancels 80 = .ok (.ireturn, 1) := by decide +kernel
theorem dX7_cancelOrder_0 : decode cX7_cancelOrder 0 = .ok (.aload_n 0, 1) := by decide +kernel
theorem dX7_cancelOrder_1 : decode cX7_cancelOrder 1 = .ok (.invokevirtual 91, 3) := by decide +kernel
theorem dX7_cancelOrder_4 : decode cX7_cancelOrder 4 = .ok (.aload_n 0, 1) := by decide +kernel
theorem dX7_cancelOrder_5 : decode cX7_cancelOrder 5 = .ok (.aload_n 0, 1) := by decide +kernel
theorem dX7_cancelOrder_6 : decode cX7_cancelOrder 6 = .ok (.iload_n 1, 1) := by decide +kernel
theorem dX7_cancelOrder_7 : decode cX7_cancelOrder 7 = .ok (.invokevirtual 119, 3) := by decide +kernel
theorem dX7_cancelOrder_10 : decode cX7_cancelOrder 10 = .ok (.invokevirtual 98, 3) := by decide +kernel
theorem dX7_cancelOrder_13 : decode cX7_cancelOrder 13 = .ok (.ireturn, 1) := by decide +kernel
theorem dX7_salts_0 : decode cX7_salts 0 = .ok (.aload_n 0, 1) := by decide +kernel
theorem dX7_salts_1 : decode cX7_salts 1 = .ok (.aload_n 0, 1) := by decide +kernel
theorem dX7_salts_2 : decode cX7_salts 2 = .ok (.iload_n 1, 1) := by decide +kernel
theorem dX7_salts_3 : decode cX7_salts 3 = .ok (.invokevirtual 110, 3) := by decide +kernel
theorem dX7_salts_6 : decode cX7_salts 6 = .ok (.ifCond .ne 7, 3) := by decide +kernel
theorem dX7_salts_9 : decode cX7_salts 9 = .ok (.iconst 1, 1) := by decide +kernel
theorem dX7_salts_10 : decode cX7_salts 10 = .ok (.goto 4, 3) := by decide +kernel
theorem dX7_salts_13 : decode cX7_salts 13 = .ok (.iconst 0, 1) := by decide +kernel
theorem dX7_salts_14 : decode cX7_salts 14 = .ok (.iconst 1, 1) := by decide +kernel
theorem dX7_salts_15 : decode cX7_salts 15 = .ok (.invokevirtual 79, 3) := by decide +kernel
theorem dX7_salts_18 : decode cX7_salts 18 = .ok (.ifCond .ne 44, 3) := by decide +kernel
theorem dX7_salts_21 : decode cX7_salts 21 = .ok (.aload_n 0, 1) := by decide +kernel
theorem dX7_salts_22 : decode cX7_salts 22 = .ok (.aload_n 0, 1) := by decide +kernel
theorem dX7_salts_23 : decode cX7_salts 23 = .ok (.iload_n 1, 1) := by decide +kernel
theorem dX7_salts_24 : decode cX7_salts 24 = .ok (.invokevirtual 122, 3) := by decide +kernel
theorem dX7_salts_27 : decode cX7_salts 27 = .ok (.iconst 2, 1) := by decide +kernel
theorem dX7_salts_28 : decode cX7_salts 28 = .ok (.invokevirtual 79, 3) := by decide +kernel
theorem dX7_salts_31 : decode cX7_salts 31 = .ok (.ifCond .ne 31, 3) := by decide +kernel
theorem dX7_salts_34 : decode cX7_salts 34 = .ok (.aload_n 0, 1) := by decide +kernel
theorem dX7_salts_35 : decode cX7_salts 35 = .ok (.aload_n 0, 1) := by decide +kernel
theorem dX7_salts_36 : decode cX7_salts 36 = .ok (.getfield 9, 3) := by decide +kernel
theorem dX7_salts_39 : decode cX7_salts 39 = .ok (.iconst 3, 1) := by decide +kernel
theorem dX7_salts_40 : decode cX7_salts 40 = .ok (.iaload, 1) := by decide +kernel
theorem dX7_salts_41 : decode cX7_salts 41 = .ok (.aload_n 0, 1) := by decide +kernel
theorem dX7_salts_42 : decode cX7_salts 42 = .ok (.iload_n 1, 1) := by decide +kernel
theorem dX7_salts_43 : decode cX7_salts 43 = .ok (.iconst 3, 1) := by decide +kernel
theorem dX7_salts_44 : decode cX7_salts 44 = .ok (.invokevirtual 61, 3) := by decide +kernel
theorem dX7_salts_47 : decode cX7_salts 47 = .ok (.if_icmp .ge 7, 3) := by decide +kernel
theorem dX7_salts_50 : decode cX7_salts 50 = .ok (.iconst 1, 1) := by decide +kernel
theorem dX7_salts_51 : decode cX7_salts 51 = .ok (.goto 4, 3) := by decide +kernel
theorem dX7_salts_54 : decode cX7_salts 54 = .ok (.iconst 0, 1) := by decide +kernel
theorem dX7_salts_55 : decode cX7_salts 55 = .ok (.iconst 3, 1) := by decide +kernel
theorem dX7_salts_56 : decode cX7_salts 56 = .ok (.invokevirtual 79, 3) := by decide +kernel
theorem dX7_salts_59 : decode cX7_salts 59 = .ok (.ifCond .eq 5, 3) := by decide +kernel
theorem dX7_salts_62 : decode cX7_salts 62 = .ok (.iconst 0, 1) := by decide +kernel
theorem dX7_salts_63 : decode cX7_salts 63 = .ok (.ireturn, 1) := by decide +kernel
theorem dX7_salts_64 : decode cX7_salts 64 = .ok (.aload_n 0, 1) := by decide +kernel
theorem dX7_salts_65 : decode cX7_salts 65 = .ok (.getfield 9, 3) := by decide +kernel
theorem dX7_salts_68 : decode cX7_salts 68 = .ok (.iconst 3, 1) := by decide +kernel
theorem dX7_salts_69 : decode cX7_salts 69 = .ok (.dup2, 1) := by decide +kernel
theorem dX7_salts_70 : decode cX7_salts 70 = .ok (.iaload, 1) := by decide +kernel
theorem dX7_salts_71 : decode cX7_salts 71 = .ok (.aload_n 0, 1) := by decide +kernel
theorem dX7_salts_72 : decode cX7_salts 72 = .ok (.iload_n 1, 1) := by decide +kernel
theorem dX7_salts_73 : decode cX7_salts 73 = .ok (.iconst 3, 1) := by decide +kernel
theorem dX7_salts_74 : decode cX7_salts 74 = .ok (.invokevirtual 61, 3) := by decide +kernel
theorem dX7_salts_77 : decode cX7_salts 77 = .ok (.isub, 1) := by decide +kernel
theorem dX7_salts_78 : decode cX7_salts 78 = .ok (.iastore, 1) := by decide +kernel
theorem dX7_salts_79 : decode cX7_salts 79 = .ok (.aload_n 0, 1) := by decide +kernel
theorem dX7_salts_80 : decode cX7_salts 80 = .ok (.iload_n 1, 1) := by decide +kernel
theorem dX7_salts_81 : decode cX7_salts 81 = .ok (.iconst 5, 1) := by decide +kernel
theorem dX7_salts_82 : decode cX7_salts 82 = .ok (.aload_n 0, 1) := by decide +kernel
theorem dX7_salts_83 : decode cX7_salts 83 = .ok (.getfield 9, 3) := by decide +kernel
theorem dX7_salts_86 : decode cX7_salts 86 = .ok (.iconst 0, 1) := by decide +kernel
theorem dX7_salts_87 : decode cX7_salts 87 = .ok (.iaload, 1) := by decide +kernel
theorem dX7_salts_88 : decode cX7_salts 88 = .ok (.sipush 240, 3) := by decide +kernel
theorem dX7_salts_91 : decode cX7_salts 91 = .ok (.iadd, 1) := by decide +kernel
theorem dX7_salts_92 : decode cX7_salts 92 = .ok (.invokevirtual 87, 3) := by decide +kernel
theorem dX7_salts_95 : decode cX7_salts 95 = .ok (.aload_n 0, 1) := by decide +kernel
theorem dX7_salts_96 : decode cX7_salts 96 = .ok (.getfield 9, 3) := by decide +kernel
theorem dX7_salts_99 : decode cX7_salts 99 = .ok (.iconst 3, 1) := by decide +kernel
theorem dX7_salts_100 : decode cX7_salts 100 = .ok (.iaload, 1) := by decide +kernel
theorem dX7_salts_101 : decode cX7_salts 101 = .ok (.ireturn, 1) := by decide +kernel
theorem dX7_salt_0 : decode cX7_salt 0 = .ok (.aload_n 0, 1) := by decide +kernel
theorem dX7_salt_1 : decode cX7_salt 1 = .ok (.invokevirtual 91, 3) := by decide +kernel
theorem dX7_salt_4 : decode cX7_salt 4 = .ok (.aload_n 0, 1) := by decide +kernel
theorem dX7_salt_5 : decode cX7_salt 5 = .ok (.aload_n 0, 1) := by decide +kernel
theorem dX7_salt_6 : decode cX7_salt 6 = .ok (.iload_n 1, 1) := by decide +kernel
theorem dX7_salt_7 : decode cX7_salt 7 = .ok (.invokevirtual 125, 3) := by decide +kernel
theorem dX7_salt_10 : decode cX7_salt 10 = .ok (.invokevirtual 98, 3) := by decide +kernel
theorem dX7_salt_13 : decode cX7_salt 13 = .ok (.ireturn, 1) := by decide +kernel
theorem dX7_loads_0 : decode cX7_loads 0 = .ok (.aload_n 0, 1) := by decide +kernel
theorem dX7_loads_1 : decode cX7_loads 1 = .ok (.iload_n 1, 1) := by decide +kernel
theorem dX7_loads_2 : decode cX7_loads 2 = .ok (.iconst 1, 1) := by decide +kernel
theorem dX7_loads_3 : decode cX7_loads 3 = .ok (.sipush 200, 3) := by decide +kernel
theorem dX7_loads_6 : decode cX7_loads 6 = .ok (.invokestatic 57, 3) := by decide +kernel
theorem dX7_loads_9 : decode cX7_loads 9 = .ok (.ifCond .ne 7, 3) := by decide +kernel
theorem dX7_loads_12 : decode cX7_loads 12 = .ok (.iconst 1, 1) := by decide +kernel
theorem dX7_loads_13 : decode cX7_loads 13 = .ok (.goto 4, 3) := by decide +kernel
theorem dX7_loads_16 : decode cX7_loads 16 = .ok (.iconst 0, 1) := by decide +kernel
theorem dX7_loads_17 : decode cX7_loads 17 = .ok (.iconst 1, 1) := by decide +kernel
theorem dX7_loads_18 : decode cX7_loads 18 = .ok (.invokevirtual 79, 3) := by decide +kernel
theorem dX7_loads_21 : decode cX7_loads 21 = .ok (.ifCond .ne 30, 3) := by decide +kernel
theorem dX7_loads_24 : decode cX7_loads 24 = .ok (.aload_n 0, 1) := by decide +kernel
theorem dX7_loads_25 : decode cX7_loads 25 = .ok (.aload_n 0, 1) := by decide +kernel
theorem dX7_loads_26 : decode cX7_loads 26 = .ok (.getfield 9, 3) := by decide +kernel
theorem dX7_loads_29 : decode cX7_loads 29 = .ok (.iconst 3, 1) := by decide +kernel
theorem dX7_loads_30 : decode cX7_loads 30 = .ok (.iaload, 1) := by decide +kernel
theorem dX7_loads_31 : decode cX7_loads 31 = .ok (.iload_n 1, 1) := by decide +kernel
theorem dX7_loads_32 : decode cX7_loads 32 = .ok (.iadd, 1) := by decide +kernel
theorem dX7_loads_33 : decode cX7_loads 33 = .ok (.sipush 500, 3) := by decide +kernel
theorem dX7_loads_36 : decode cX7_loads 36 = .ok (.if_icmp .le 7, 3) := by decide +kernel
theorem dX7_loads_39 : decode cX7_loads 39 = .ok (.iconst 1, 1) := by decide +kernel
theorem dX7_loads_40 : decode cX7_loads 40 = .ok (.goto 4, 3) := by decide +kernel
theorem dX7_loads_43 : decode cX7_loads 43 = .ok (.iconst 0, 1) := by decide +kernel
theorem dX7_loads_44 : decode cX7_loads 44 = .ok (.iconst 2, 1) := by decide +kernel
theorem dX7_loads_45 : decode cX7_loads 45 = .ok (.invokevirtual 79, 3) := by decide +kernel
theorem dX7_loads_48 : decode cX7_loads 48 = .ok (.ifCond .eq 5, 3) := by decide +kernel
theorem dX7_loads_51 : decode cX7_loads 51 = .ok (.iconst 0, 1) := by decide +kernel
theorem dX7_loads_52 : decode cX7_loads 52 = .ok (.ireturn, 1) := by decide +kernel
theorem dX7_loads_53 : decode cX7_loads 53 = .ok (.aload_n 0, 1) := by decide +kernel
theorem dX7_loads_54 : decode cX7_loads 54 = .ok (.getfield 9, 3) := by decide +kernel
theorem dX7_loads_57 : decode cX7_loads 57 = .ok (.iconst 3, 1) := by decide +kernel
theorem dX7_loads_58 : decode cX7_loads 58 = .ok (.dup2, 1) := by decide +kernel
theorem dX7_loads_59 : decode cX7_loads 59 = .ok (.iaload, 1) := by decide +kernel
theorem dX7_loads_60 : decode cX7_loads 60 = .ok (.iload_n 1, 1) := by decide +kernel
theorem dX7_loads_61 : decode cX7_loads 61 = .ok (.iadd, 1) := by decide +kernel
theorem dX7_loads_62 : decode cX7_loads 62 = .ok (.iastore, 1) := by decide +kernel
theorem dX7_loads_63 : decode cX7_loads 63 = .ok (.aload_n 0, 1) := by decide +kernel
theorem dX7_loads_64 : decode cX7_loads 64 = .ok (.getfield 9, 3) := by decide +kernel
theorem dX7_loads_67 : decode cX7_loads 67 = .ok (.iconst 3, 1) := by decide +kernel
theorem dX7_loads_68 : decode cX7_loads 68 = .ok (.iaload, 1) := by decide +kernel
theorem dX7_loads_69 : decode cX7_loads 69 = .ok (.ireturn, 1) := by decide +kernel
theorem dX7_loadSalt_0 : decode cX7_loadSalt 0 = .ok (.aload_n 0, 1) := by decide +kernel
theorem dX7_loadSalt_1 : decode cX7_loadSalt 1 = .ok (.invokevirtual 91, 3) := by decide +kernel
theorem dX7_loadSalt_4 : decode cX7_loadSalt 4 = .ok (.aload_n 0, 1) := by decide +kernel
theorem dX7_loadSalt_5 : decode cX7_loadSalt 5 = .ok (.aload_n 0, 1) := by decide +kernel
theorem dX7_loadSalt_6 : decode cX7_loadSalt 6 = .ok (.iload_n 1, 1) := by decide +kernel
theorem dX7_loadSalt_7 : decode cX7_loadSalt 7 = .ok (.invokevirtual 128, 3) := by decide +kernel
theorem dX7_loadSalt_10 : decode cX7_loadSalt 10 = .ok (.invokevirtual 98, 3) := by decide +kernel
theorem dX7_loadSalt_13 : decode cX7_loadSalt 13 = .ok (.ireturn, 1) := by decide +kernel
theorem dX7_tells_0 : decode cX7_tells 0 = .ok (.aload_n 0, 1) := by decide +kernel
theorem dX7_tells_1 : decode cX7_tells 1 = .ok (.iload_n 2, 1) := by decide +kernel
theorem dX7_tells_2 : decode cX7_tells 2 = .ok (.iconst 0, 1) := by decide +kernel
theorem dX7_tells_3 : decode cX7_tells 3 = .ok (.bipush 9, 2) := by decide +kernel
theorem dX7_tells_5 : decode cX7_tells 5 = .ok (.invokestatic 57, 3) := by decide +kernel
theorem dX7_tells_8 : decode cX7_tells 8 = .ok (.ifCond .ne 7, 3) := by decide +kernel
theorem dX7_tells_11 : decode cX7_tells 11 = .ok (.iconst 1, 1) := by decide +kernel
theorem dX7_tells_12 : decode cX7_tells 12 = .ok (.goto 4, 3) := by decide +kernel
theorem dX7_tells_15 : decode cX7_tells 15 = .ok (.iconst 0, 1) := by decide +kernel
theorem dX7_tells_16 : decode cX7_tells 16 = .ok (.iconst 1, 1) := by decide +kernel
theorem dX7_tells_17 : decode cX7_tells 17 = .ok (.invokevirtual 79, 3) := by decide +kernel
theorem dX7_tells_20 : decode cX7_tells 20 = .ok (.ifCond .eq 5, 3) := by decide +kernel
theorem dX7_tells_23 : decode cX7_tells 23 = .ok (.iconst 0, 1) := by decide +kernel
theorem dX7_tells_24 : decode cX7_tells 24 = .ok (.ireturn, 1) := by decide +kernel
theorem dX7_tells_25 : decode cX7_tells 25 = .ok (.aload_n 0, 1) := by decide +kernel
theorem dX7_tells_26 : decode cX7_tells 26 = .ok (.getfield 9, 3) := by decide +kernel
theorem dX7_tells_29 : decode cX7_tells 29 = .ok (.iload_n 1, 1) := by decide +kernel
theorem dX7_tells_30 : decode cX7_tells 30 = .ok (.iaload, 1) := by decide +kernel
theorem dX7_tells_31 : decode cX7_tells 31 = .ok (.istore_n 3, 1) := by decide +kernel
theorem dX7_tells_32 : decode cX7_tells 32 = .ok (.aload_n 0, 1) := by decide +kernel
theorem dX7_tells_33 : decode cX7_tells 33 = .ok (.getfield 9, 3) := by decide +kernel
theorem dX7_tells_36 : decode cX7_tells 36 = .ok (.iload_n 1, 1) := by decide +kernel
theorem dX7_tells_37 : decode cX7_tells 37 = .ok (.iload_n 2, 1) := by decide +kernel
theorem dX7_tells_38 : decode cX7_tells 38 = .ok (.iastore, 1) := by decide +kernel
theorem dX7_tells_39 : decode cX7_tells 39 = .ok (.iload_n 3, 1) := by decide +kernel
theorem dX7_tells_40 : decode cX7_tells 40 = .ok (.ireturn, 1) := by decide +kernel
theorem dX7_setSnowfall_0 : decode cX7_setSnowfall 0 = .ok (.aload_n 0, 1) := by decide +kernel
theorem dX7_setSnowfall_1 : decode cX7_setSnowfall 1 = .ok (.invokevirtual 91, 3) := by decide +kernel
theorem dX7_setSnowfall_4 : decode cX7_setSnowfall 4 = .ok (.aload_n 0, 1) := by decide +kernel
theorem dX7_setSnowfall_5 : decode cX7_setSnowfall 5 = .ok (.aload_n 0, 1) := by decide +kernel
theorem dX7_setSnowfall_6 : decode cX7_setSnowfall 6 = .ok (.iconst 4, 1) := by decide +kernel
theorem dX7_setSnowfall_7 : decode cX7_setSnowfall 7 = .ok (.iload_n 1, 1) := by decide +kernel
theorem dX7_setSnowfall_8 : decode cX7_setSnowfall 8 = .ok (.invokevirtual 131, 3) := by decide +kernel
theorem dX7_setSnowfall_11 : decode cX7_setSnowfall 11 = .ok (.invokevirtual 98, 3) := by decide +kernel
theorem dX7_setSnowfall_14 : decode cX7_setSnowfall 14 = .ok (.ireturn, 1) := by decide +kernel
theorem dX7_setWind_0 : decode cX7_setWind 0 = .ok (.aload_n 0, 1) := by decide +kernel
theorem dX7_setWind_1 : decode cX7_setWind 1 = .ok (.invokevirtual 91, 3) := by decide +kernel
theorem dX7_setWind_4 : decode cX7_setWind 4 = .ok (.aload_n 0, 1) := by decide +kernel
theorem dX7_setWind_5 : decode cX7_setWind 5 = .ok (.aload_n 0, 1) := by decide +kernel
theorem dX7_setWind_6 : decode cX7_setWind 6 = .ok (.iconst 5, 1) := by decide +kernel
theorem dX7_setWind_7 : decode cX7_setWind 7 = .ok (.iload_n 1, 1) := by decide +kernel
theorem dX7_setWind_8 : decode cX7_setWind 8 = .ok (.invokevirtual 131, 3) := by decide +kernel
theorem dX7_setWind_11 : decode cX7_setWind 11 = .ok (.invokevirtual 98, 3) := by decide +kernel
theorem dX7_setWind_14 : decode cX7_setWind 14 = .ok (.ireturn, 1) := by decide +kernel
theorem dX7_finds_0 : decode cX7_finds 0 = .ok (.iconst 0, 1) := by decide +kernel
theorem dX7_finds_1 : decode cX7_finds 1 = .ok (.istore_n 2, 1) := by decide +kernel
theorem dX7_finds_2 : decode cX7_finds 2 = .ok (.iload_n 2, 1) := by decide +kernel
theorem dX7_finds_3 : decode cX7_finds 3 = .ok (.bipush 8, 2) := by decide +kernel
theorem dX7_finds_5 : decode cX7_finds 5 = .ok (.if_icmp .ge 27, 3) := by decide +kernel
theorem dX7_finds_8 : decode cX7_finds 8 = .ok (.aload_n 0, 1) := by decide +kernel
theorem dX7_finds_9 : decode cX7_finds 9 = .ok (.getfield 25, 3) := by decide +kernel
theorem dX7_finds_12 : decode cX7_finds 12 = .ok (.iload_n 2, 1) := by decide +kernel
theorem dX7_finds_13 : decode cX7_finds 13 = .ok (.iload_n 2, 1) := by decide +kernel
theorem dX7_finds_14 : decode cX7_finds 14 = .ok (.iload_n 1, 1) := by decide +kernel
theorem dX7_finds_15 : decode cX7_finds 15 = .ok (.if_icmp .ne 7, 3) := by decide +kernel
theorem dX7_finds_18 : decode cX7_finds 18 = .ok (.iconst 0, 1) := by decide +kernel
theorem dX7_finds_19 : decode cX7_finds 19 = .ok (.goto 6, 3) := by decide +kernel
theorem dX7_finds_22 : decode cX7_finds 22 = .ok (.sipush 9999, 3) := by decide +kernel
theorem dX7_finds_25 : decode cX7_finds 25 = .ok (.iastore, 1) := by decide +kernel
theorem dX7_finds_26 : decode cX7_finds 26 = .ok (.iinc 2 1, 3) := by decide +kernel
theorem dX7_finds_29 : decode cX7_finds 29 = .ok (.goto (-27), 3) := by decide +kernel
theorem dX7_finds_32 : decode cX7_finds 32 = .ok (.iconst 1, 1) := by decide +kernel
theorem dX7_finds_33 : decode cX7_finds 33 = .ok (.istore_n 2, 1) := by decide +kernel
theorem dX7_finds_34 : decode cX7_finds 34 = .ok (.iload_n 2, 1) := by decide +kernel
theorem dX7_finds_35 : decode cX7_finds 35 = .ok (.bipush 8, 2) := by decide +kernel
theorem dX7_finds_37 : decode cX7_finds 37 = .ok (.if_icmp .ge 105, 3) := by decide +kernel
theorem dX7_finds_40 : decode cX7_finds 40 = .ok (.iconst 0, 1) := by decide +kernel
theorem dX7_finds_41 : decode cX7_finds 41 = .ok (.istore_n 3, 1) := by decide +kernel
theorem dX7_finds_42 : decode cX7_finds 42 = .ok (.iload_n 3, 1) := by decide +kernel
theorem dX7_finds_43 : decode cX7_finds 43 = .ok (.aload_n 0, 1) := by decide +kernel
theorem dX7_finds_44 : decode cX7_finds 44 = .ok (.getfield 9, 3) := by decide +kernel
theorem dX7_finds_47 : decode cX7_finds 47 = .ok (.iconst 1, 1) := by decide +kernel
theorem dX7_finds_48 : decode cX7_finds 48 = .ok (.iaload, 1) := by decide +kernel
theorem dX7_finds_49 : decode cX7_finds 49 = .ok (.if_icmp .ge 87, 3) := by decide +kernel
theorem dX7_finds_52 : decode cX7_finds 52 = .ok (.aload_n 0, 1) := by decide +kernel
theorem dX7_finds_53 : decode cX7_finds 53 = .ok (.iload_n 3, 1) := by decide +kernel
theorem dX7_finds_54 : decode cX7_finds 54 = .ok (.iconst 0, 1) := by decide +kernel
theorem dX7_finds_55 : decode cX7_finds 55 = .ok (.invokevirtual 61, 3) := by decide +kernel
theorem dX7_finds_58 : decode cX7_finds 58 = .ok (.istore 4, 2) := by decide +kernel
theorem dX7_finds_60 : decode cX7_finds 60 = .ok (.aload_n 0, 1) := by decide +kernel
theorem dX7_finds_61 : decode cX7_finds 61 = .ok (.iload_n 3, 1) := by decide +kernel
theorem dX7_finds_62 : decode cX7_finds 62 = .ok (.iconst 1, 1) := by decide +kernel
theorem dX7_finds_63 : decode cX7_finds 63 = .ok (.invokevirtual 61, 3) := by decide +kernel
theorem dX7_finds_66 : decode cX7_finds 66 = .ok (.istore 5, 2) := by decide +kernel
theorem dX7_finds_68 : decode cX7_finds 68 = .ok (.aload_n 0, 1) := by decide +kernel
theorem dX7_finds_69 : decode cX7_finds 69 = .ok (.getfield 25, 3) := by decide +kernel
theorem dX7_finds_72 : decode cX7_finds 72 = .ok (.iload 5, 2) := by decide +kernel
theorem dX7_finds_74 : decode cX7_finds 74 = .ok (.aload_n 0, 1) := by decide +kernel
theorem dX7_finds_75 : decode cX7_finds 75 = .ok (.getfield 25, 3) := by decide +kernel
theorem dX7_finds_78 : decode cX7_finds 78 = .ok (.iload 5, 2) := by decide +kernel
theorem dX7_finds_80 : decode cX7_finds 80 = .ok (.iaload, 1) := by decide +kernel
theorem dX7_finds_81 : decode cX7_finds 81 = .ok (.aload_n 0, 1) := by decide +kernel
theorem dX7_finds_82 : decode cX7_finds 82 = .ok (.getfield 25, 3) := by decide +kernel
theorem dX7_finds_85 : decode cX7_finds 85 = .ok (.iload 4, 2) := by decide +kernel
theorem dX7_finds_87 : decode cX7_finds 87 = .ok (.iaload, 1) := by decide +kernel
theorem dX7_finds_88 : decode cX7_finds 88 = .ok (.aload_n 0, 1) := by decide +kernel
theorem dX7_finds_89 : decode cX7_finds 89 = .ok (.iload_n 3, 1) := by decide +kernel
theorem dX7_finds_90 : decode cX7_finds 90 = .ok (.iconst 3, 1) := by decide +kernel
theorem dX7_finds_91 : decode cX7_finds 91 = .ok (.invokevirtual 61, 3) := by decide +kernel
theorem dX7_finds_94 : decode cX7_finds 94 = .ok (.iadd, 1) := by decide +kernel
theorem dX7_finds_95 : decode cX7_finds 95 = .ok (.invokestatic 69, 3) := by decide +kernel
theorem dX7_finds_98 : decode cX7_finds 98 = .ok (.iastore, 1) := by decide +kernel
theorem dX7_finds_99 : decode cX7_finds 99 = .ok (.aload_n 0, 1) := by decide +kernel
theorem dX7_finds_100 : decode cX7_finds 100 = .ok (.getfield 25, 3) := by decide +kernel
theorem dX7_finds_103 : decode cX7_finds 103 = .ok (.iload 4, 2) := by decide +kernel
theorem dX7_finds_105 : decode cX7_finds 105 = .ok (.aload_n 0, 1) := by decide +kernel
theorem dX7_finds_106 : decode cX7_finds 106 = .ok (.getfield 25, 3) := by decide +kernel
theorem dX7_finds_109 : decode cX7_finds 109 = .ok (.iload 4, 2) := by decide +kernel
theorem dX7_finds_111 : decode cX7_finds 111 = .ok (.iaload, 1) := by decide +kernel
theorem dX7_finds_112 : decode cX7_finds 112 = .ok (.aload_n 0, 1) := by decide +kernel
theorem dX7_finds_113 : decode cX7_finds 113 = .ok (.getfield 25, 3) := by decide +kernel
theorem dX7_finds_116 : decode cX7_finds 116 = .ok (.iload 5, 2) := by decide +kernel
theorem dX7_finds_118 : decode cX7_finds 118 = .ok (.iaload, 1) := by decide +kernel
theorem dX7_finds_119 : decode cX7_finds 119 = .ok (.aload_n 0, 1) := by decide +kernel
theorem dX7_finds_120 : decode cX7_finds 120 = .ok (.iload_n 3, 1) := by decide +kernel
theorem dX7_finds_121 : decode cX7_finds 121 = .ok (.iconst 3, 1) := by decide +kernel
theorem dX7_finds_122 : decode cX7_finds 122 = .ok (.invokevirtual 61, 3) := by decide +kernel
theorem dX7_finds_125 : decode cX7_finds 125 = .ok (.iadd, 1) := by decide +kernel
theorem dX7_finds_126 : decode cX7_finds 126 = .ok (.invokestatic 69, 3) := by decide +kernel
theorem dX7_finds_129 : decode cX7_finds 129 = .ok (.iastore, 1) := by decide +kernel
theorem dX7_finds_130 : decode cX7_finds 130 = .ok (.iinc 3 1, 3) := by decide +kernel
theorem dX7_finds_133 : decode cX7_finds 133 = .ok (.goto (-91), 3) := by decide +kernel
theorem dX7_finds_136 : decode cX7_finds 136 = .ok (.iinc 2 1, 3) := by decide +kernel
theorem dX7_finds_139 : decode cX7_finds 139 = .ok (.goto (-105), 3) := by decide +kernel
theorem dX7_finds_142 : decode cX7_finds 142 = .ok (.return_, 1) := by decide +kernel
theorem dX7_minutes_0 : decode cX7_minutes 0 = .ok (.aload_n 0, 1) := by decide +kernel
theorem dX7_minutes_1 : decode cX7_minutes 1 = .ok (.iload_n 1, 1) := by decide +kernel
theorem dX7_minutes_2 : decode cX7_minutes 2 = .ok (.invokevirtual 134, 3) := by decide +kernel
theorem dX7_minutes_5 : decode cX7_minutes 5 = .ok (.aload_n 0, 1) := by decide +kernel
theorem dX7_minutes_6 : decode cX7_minutes 6 = .ok (.getfield 25, 3) := by decide +kernel
theorem dX7_minutes_9 : decode cX7_minutes 9 = .ok (.aload_n 0, 1) := by decide +kernel
theorem dX7_minutes_10 : decode cX7_minutes 10 = .ok (.iload_n 2, 1) := by decide +kernel
theorem dX7_minutes_11 : decode cX7_minutes 11 = .ok (.iconst 0, 1) := by decide +kernel
theorem dX7_minutes_12 : decode cX7_minutes 12 = .ok (.invokevirtual 61, 3) := by decide +kernel
theorem dX7_minutes_15 : decode cX7_minutes 15 = .ok (.iaload, 1) := by decide +kernel
theorem dX7_minutes_16 : decode cX7_minutes 16 = .ok (.aload_n 0, 1) := by decide +kernel
theorem dX7_minutes_17 : decode cX7_minutes 17 = .ok (.getfield 25, 3) := by decide +kernel
theorem dX7_minutes_20 : decode cX7_minutes 20 = .ok (.aload_n 0, 1) := by decide +kernel
theorem dX7_minutes_21 : decode cX7_minutes 21 = .ok (.iload_n 2, 1) := by decide +kernel
theorem dX7_minutes_22 : decode cX7_minutes 22 = .ok (.iconst 1, 1) := by decide +kernel
theorem dX7_minutes_23 : decode cX7_minutes 23 = .ok (.invokevirtual 61, 3) := by decide +kernel
theorem dX7_minutes_26 : decode cX7_minutes 26 = .ok (.iaload, 1) := by decide +kernel
theorem dX7_minutes_27 : decode cX7_minutes 27 = .ok (.invokestatic 69, 3) := by decide +kernel
theorem dX7_minutes_30 : decode cX7_minutes 30 = .ok (.istore_n 3, 1) := by decide +kernel
theorem dX7_minutes_31 : decode cX7_minutes 31 = .ok (.iload_n 3, 1) := by decide +kernel
theorem dX7_minutes_32 : decode cX7_minutes 32 = .ok (.sipush 9999, 3) := by decide +kernel
theorem dX7_minutes_35 : decode cX7_minutes 35 = .ok (.if_icmp .lt 7, 3) := by decide +kernel
theorem dX7_minutes_38 : decode cX7_minutes 38 = .ok (.iconst (-1), 1) := by decide +kernel
theorem dX7_minutes_39 : decode cX7_minutes 39 = .ok (.goto 15, 3) := by decide +kernel
theorem dX7_minutes_42 : decode cX7_minutes 42 = .ok (.iconst 2, 1) := by decide +kernel
theorem dX7_minutes_43 : decode cX7_minutes 43 = .ok (.iload_n 3, 1) := by decide +kernel
theorem dX7_minutes_44 : decode cX7_minutes 44 = .ok (.imul, 1) := by decide +kernel
theorem dX7_minutes_45 : decode cX7_minutes 45 = .ok (.iconst 4, 1) := by decide +kernel
theorem dX7_minutes_46 : decode cX7_minutes 46 = .ok (.aload_n 0, 1) := by decide +kernel
theorem dX7_minutes_47 : decode cX7_minutes 47 = .ok (.iload_n 2, 1) := by decide +kernel
theorem dX7_minutes_48 : decode cX7_minutes 48 = .ok (.iconst 3, 1) := by decide +kernel
theorem dX7_minutes_49 : decode cX7_minutes 49 = .ok (.invokevirtual 61, 3) := by decide +kernel
theorem dX7_minutes_52 : decode cX7_minutes 52 = .ok (.imul, 1) := by decide +kernel
theorem dX7_minutes_53 : decode cX7_minutes 53 = .ok (.iadd, 1) := by decide +kernel
theorem dX7_minutes_54 : decode cX7_minutes 54 = .ok (.ireturn, 1) := by decide +kernel
theorem dX7_takes_0 : decode cX7_takes 0 = .ok (.aload_n 0, 1) := by decide +kernel
theorem dX7_takes_1 : decode cX7_takes 1 = .ok (.iload_n 1, 1) := by decide +kernel
theorem dX7_takes_2 : decode cX7_takes 2 = .ok (.iconst 4, 1) := by decide +kernel
theorem dX7_takes_3 : decode cX7_takes 3 = .ok (.invokevirtual 113, 3) := by decide +kernel
theorem dX7_takes_6 : decode cX7_takes 6 = .ok (.istore_n 2, 1) := by decide +kernel
theorem dX7_takes_7 : decode cX7_takes 7 = .ok (.aload_n 0, 1) := by decide +kernel
theorem dX7_takes_8 : decode cX7_takes 8 = .ok (.iload_n 1, 1) := by decide +kernel
theorem dX7_takes_9 : decode cX7_takes 9 = .ok (.iconst 3, 1) := by decide +kernel
theorem dX7_takes_10 : decode cX7_takes 10 = .ok (.invokevirtual 113, 3) := by decide +kernel
theorem dX7_takes_13 : decode cX7_takes 13 = .ok (.iconst 1, 1) := by decide +kernel
theorem dX7_takes_14 : decode cX7_takes 14 = .ok (.isub, 1) := by decide +kernel
theorem dX7_takes_15 : decode cX7_takes 15 = .ok (.istore_n 3, 1) := by decide +kernel
theorem dX7_takes_16 : decode cX7_takes 16 = .ok (.iconst 0, 1) := by decide +kernel
theorem dX7_takes_17 : decode cX7_takes 17 = .ok (.istore 4, 2) := by decide +kernel
theorem dX7_takes_19 : decode cX7_takes 19 = .ok (.iload 4, 2) := by decide +kernel
theorem dX7_takes_21 : decode cX7_takes 21 = .ok (.iload_n 3, 1) := by decide +kernel
theorem dX7_takes_22 : decode cX7_takes 22 = .ok (.if_icmp .ge 29, 3) := by decide +kernel
theorem dX7_takes_25 : decode cX7_takes 25 = .ok (.aload_n 0, 1) := by decide +kernel
theorem dX7_takes_26 : decode cX7_takes 26 = .ok (.iload_n 1, 1) := by decide +kernel
theorem dX7_takes_27 : decode cX7_takes 27 = .ok (.iconst 4, 1) := by decide +kernel
theorem dX7_takes_28 : decode cX7_takes 28 = .ok (.iload 4, 2) := by decide +kernel
theorem dX7_takes_30 : decode cX7_takes 30 = .ok (.iadd, 1) := by decide +kernel
theorem dX7_takes_31 : decode cX7_takes 31 = .ok (.aload_n 0, 1) := by decide +kernel
theorem dX7_takes_32 : decode cX7_takes 32 = .ok (.iload_n 1, 1) := by decide +kernel
theorem dX7_takes_33 : decode cX7_takes 33 = .ok (.iconst 4, 1) := by decide +kernel
theorem dX7_takes_34 : decode cX7_takes 34 = .ok (.iload 4, 2) := by decide +kernel
theorem dX7_takes_36 : decode cX7_takes 36 = .ok (.iadd, 1) := by decide +kernel
theorem dX7_takes_37 : decode cX7_takes 37 = .ok (.iconst 1, 1) := by decide +kernel
theorem dX7_takes_38 : decode cX7_takes 38 = .ok (.iadd, 1) := by decide +kernel
theorem dX7_takes_39 : decode cX7_takes 39 = .ok (.invokevirtual 113, 3) := by decide +kernel
theorem dX7_takes_42 : decode cX7_takes 42 = .ok (.invokevirtual 101, 3) := by decide +kernel
theorem dX7_takes_45 : decode cX7_takes 45 = .ok (.iinc 4 1, 3) := by decide +kernel
theorem dX7_takes_48 : decode cX7_takes 48 = .ok (.goto (-29), 3) := by decide +kernel
theorem dX7_takes_51 : decode cX7_takes 51 = .ok (.aload_n 0, 1) := by decide +kernel
theorem dX7_takes_52 : decode cX7_takes 52 = .ok (.iload_n 1, 1) := by decide +kernel
theorem dX7_takes_53 : decode cX7_takes 53 = .ok (.iconst 4, 1) := by decide +kernel
theorem dX7_takes_54 : decode cX7_takes 54 = .ok (.iload_n 3, 1) := by decide +kernel
theorem dX7_takes_55 : decode cX7_takes 55 = .ok (.iadd, 1) := by decide +kernel
theorem dX7_takes_56 : decode cX7_takes 56 = .ok (.iconst 0, 1) := by decide +kernel
theorem dX7_takes_57 : decode cX7_takes 57 = .ok (.invokevirtual 101, 3) := by decide +kernel
theorem dX7_takes_60 : decode cX7_takes 60 = .ok (.aload_n 0, 1) := by decide +kernel
theorem dX7_takes_61 : decode cX7_takes 61 = .ok (.iload_n 1, 1) := by decide +kernel
theorem dX7_takes_62 : decode cX7_takes 62 = .ok (.iconst 3, 1) := by decide +kernel
theorem dX7_takes_63 : decode cX7_takes 63 = .ok (.iload_n 3, 1) := by decide +kernel
theorem dX7_takes_64 : decode cX7_takes 64 = .ok (.invokevirtual 101, 3) := by decide +kernel
theorem dX7_takes_67 : decode cX7_takes 67 = .ok (.aload_n 0, 1) := by decide +kernel
theorem dX7_takes_68 : decode cX7_takes 68 = .ok (.aload_n 0, 1) := by decide +kernel
theorem dX7_takes_69 : decode cX7_takes 69 = .ok (.iload_n 1, 1) := by decide +kernel
theorem dX7_takes_70 : decode cX7_takes 70 = .ok (.iconst 0, 1) := by decide +kernel
theorem dX7_takes_71 : decode cX7_takes 71 = .ok (.invokevirtual 113, 3) := by decide +kernel
theorem dX7_takes_74 : decode cX7_takes 74 = .ok (.iload_n 2, 1) := by decide +kernel
theorem dX7_takes_75 : decode cX7_takes 75 = .ok (.invokevirtual 138, 3) := by decide +kernel
theorem dX7_takes_78 : decode cX7_takes 78 = .ok (.istore 4, 2) := by decide +kernel
theorem dX7_takes_80 : decode cX7_takes 80 = .ok (.iload 4, 2) := by decide +kernel
theorem dX7_takes_82 : decode cX7_takes 82 = .ok (.ifCond .ge 15, 3) := by decide +kernel
theorem dX7_takes_85 : decode cX7_takes 85 = .ok (.aload_n 0, 1) := by decide +kernel
theorem dX7_takes_86 : decode cX7_takes 86 = .ok (.getfield 9, 3) := by decide +kernel
theorem dX7_takes_89 : decode cX7_takes 89 = .ok (.bipush 8, 2) := by decide +kernel
theorem dX7_takes_91 : decode cX7_takes 91 = .ok (.dup2, 1) := by decide +kernel
theorem dX7_takes_92 : decode cX7_takes 92 = .ok (.iaload, 1) := by decide +kernel
theorem dX7_takes_93 : decode cX7_takes 93 = .ok (.iconst 1, 1) := by decide +kernel
theorem dX7_takes_94 : decode cX7_takes 94 = .ok (.iadd, 1) := by decide +kernel
theorem dX7_takes_95 : decode cX7_takes 95 = .ok (.iastore, 1) := by decide +kernel
theorem dX7_takes_96 : decode cX7_takes 96 = .ok (.return_, 1) := by decide +kernel
theorem dX7_takes_97 : decode cX7_takes 97 = .ok (.aload_n 0, 1) := by decide +kernel
theorem dX7_takes_98 : decode cX7_takes 98 = .ok (.getfield 25, 3) := by decide +kernel
theorem dX7_takes_101 : decode cX7_takes 101 = .ok (.aload_n 0, 1) := by decide +kernel
theorem dX7_takes_102 : decode cX7_takes 102 = .ok (.iload_n 2, 1) := by decide +kernel
theorem dX7_takes_103 : decode cX7_takes 103 = .ok (.iconst 0, 1) := by decide +kernel
theorem dX7_takes_104 : decode cX7_takes 104 = .ok (.invokevirtual 61, 3) := by decide +kernel
theorem dX7_takes_107 : decode cX7_takes 107 = .ok (.iaload, 1) := by decide +kernel
theorem dX7_takes_108 : decode cX7_takes 108 = .ok (.aload_n 0, 1) := by decide +kernel
theorem dX7_takes_109 : decode cX7_takes 109 = .ok (.getfield 25, 3) := by decide +kernel
theorem dX7_takes_112 : decode cX7_takes 112 = .ok (.aload_n 0, 1) := by decide +kernel
theorem dX7_takes_113 : decode cX7_takes 113 = .ok (.iload_n 2, 1) := by decide +kernel
theorem dX7_takes_114 : decode cX7_takes 114 = .ok (.iconst 1, 1) := by decide +kernel
theorem dX7_takes_115 : decode cX7_takes 115 = .ok (.invokevirtual 61, 3) := by decide +kernel
theorem dX7_takes_118 : decode cX7_takes 118 = .ok (.iaload, 1) := by decide +kernel
theorem dX7_takes_119 : decode cX7_takes 119 = .ok (.if_icmp .gt 7, 3) := by decide +kernel
theorem dX7_takes_122 : decode cX7_takes 122 = .ok (.iconst 1, 1) := by decide +kernel
theorem dX7_takes_123 : decode cX7_takes 123 = .ok (.goto 4, 3) := by decide +kernel
theorem dX7_takes_126 : decode cX7_takes 126 = .ok (.iconst 0, 1) := by decide +kernel
theorem dX7_takes_127 : decode cX7_takes 127 = .ok (.istore 5, 2) := by decide +kernel
theorem dX7_takes_129 : decode cX7_takes 129 = .ok (.aload_n 0, 1) := by decide +kernel
theorem dX7_takes_130 : decode cX7_takes 130 = .ok (.iload_n 1, 1) := by decide +kernel
theorem dX7_takes_131 : decode cX7_takes 131 = .ok (.iconst 1, 1) := by decide +kernel
theorem dX7_takes_132 : decode cX7_takes 132 = .ok (.iload 4, 2) := by decide +kernel
theorem dX7_takes_134 : decode cX7_takes 134 = .ok (.invokevirtual 101, 3) := by decide +kernel
theorem dX7_takes_137 : decode cX7_takes 137 = .ok (.aload_n 0, 1) := by decide +kernel
theorem dX7_takes_138 : decode cX7_takes 138 = .ok (.iload_n 1, 1) := by decide +kernel
theorem dX7_takes_139 : decode cX7_takes 139 = .ok (.iconst 2, 1) := by decide +kernel
theorem dX7_takes_140 : decode cX7_takes 140 = .ok (.iload_n 2, 1) := by decide +kernel
theorem dX7_takes_141 : decode cX7_takes 141 = .ok (.invokevirtual 101, 3) := by decide +kernel
theorem dX7_takes_144 : decode cX7_takes 144 = .ok (.aload_n 0, 1) := by decide +kernel
theorem dX7_takes_145 : decode cX7_takes 145 = .ok (.iload_n 1, 1) := by decide +kernel
theorem dX7_takes_146 : decode cX7_takes 146 = .ok (.iconst 0, 1) := by decide +kernel
theorem dX7_takes_147 : decode cX7_takes 147 = .ok (.iload 5, 2) := by decide +kernel
theorem dX7_takes_149 : decode cX7_takes 149 = .ok (.ifCond .eq 12, 3) := by decide +kernel
theorem dX7_takes_152 : decode cX7_takes 152 = .ok (.aload_n 0, 1) := by decide +kernel
theorem dX7_takes_153 : decode cX7_takes 153 = .ok (.iload_n 2, 1) := by decide +kernel
theorem dX7_takes_154 : decode cX7_takes 154 = .ok (.iconst 1, 1) := by decide +kernel
theorem dX7_takes_155 : decode cX7_takes 155 = .ok (.invokevirtual 61, 3) := by decide +kernel
theorem dX7_takes_158 : decode cX7_takes 158 = .ok (.goto 9, 3) := by decide +kernel
theorem dX7_takes_161 : decode cX7_takes 161 = .ok (.aload_n 0, 1) := by decide +kernel
theorem dX7_takes_162 : decode cX7_takes 162 = .ok (.iload_n 2, 1) := by decide +kernel
theorem dX7_takes_163 : decode cX7_takes 163 = .ok (.iconst 0, 1) := by decide +kernel
theorem dX7_takes_164 : decode cX7_takes 164 = .ok (.invokevirtual 61, 3) := by decide +kernel
theorem dX7_takes_167 : decode cX7_takes 167 = .ok (.invokevirtual 101, 3) := by decide +kernel
theorem dX7_takes_170 : decode cX7_takes 170 = .ok (.return_, 1) := by decide +kernel
theorem dX7_clears_0 : decode cX7_clears 0 = .ok (.aload_n 0, 1) := by decide +kernel
theorem dX7_clears_1 : decode cX7_clears 1 = .ok (.iload_n 1, 1) := by decide +kernel
theorem dX7_clears_2 : decode cX7_clears 2 = .ok (.iconst 2, 1) := by decide +kernel
theorem dX7_clears_3 : decode cX7_clears 3 = .ok (.invokevirtual 113, 3) := by decide +kernel
theorem dX7_clears_6 : decode cX7_clears 6 = .ok (.istore_n 2, 1) := by decide +kernel
theorem dX7_clears_7 : decode cX7_clears 7 = .ok (.aload_n 0, 1) := by decide +kernel
theorem dX7_clears_8 : decode cX7_clears 8 = .ok (.getfield 9, 3) := by decide +kernel
theorem dX7_clears_11 : decode cX7_clears 11 = .ok (.bipush 6, 2) := by decide +kernel
theorem dX7_clears_13 : decode cX7_clears 13 = .ok (.dup2, 1) := by decide +kernel
theorem dX7_clears_14 : decode cX7_clears 14 = .ok (.iaload, 1) := by decide +kernel
theorem dX7_clears_15 : decode cX7_clears 15 = .ok (.iconst 1, 1) := by decide +kernel
theorem dX7_clears_16 : decode cX7_clears 16 = .ok (.iadd, 1) := by decide +kernel
theorem dX7_clears_17 : decode cX7_clears 17 = .ok (.iastore, 1) := by decide +kernel
theorem dX7_clears_18 : decode cX7_clears 18 = .ok (.aload_n 0, 1) := by decide +kernel
theorem dX7_clears_19 : decode cX7_clears 19 = .ok (.getfield 9, 3) := by decide +kernel
theorem dX7_clears_22 : decode cX7_clears 22 = .ok (.bipush 7, 2) := by decide +kernel
theorem dX7_clears_24 : decode cX7_clears 24 = .ok (.dup2, 1) := by decide +kernel
theorem dX7_clears_25 : decode cX7_clears 25 = .ok (.iaload, 1) := by decide +kernel
theorem dX7_clears_26 : decode cX7_clears 26 = .ok (.aload_n 0, 1) := by decide +kernel
theorem dX7_clears_27 : decode cX7_clears 27 = .ok (.iload_n 2, 1) := by decide +kernel
theorem dX7_clears_28 : decode cX7_clears 28 = .ok (.iconst 4, 1) := by decide +kernel
theorem dX7_clears_29 : decode cX7_clears 29 = .ok (.invokevirtual 61, 3) := by decide +kernel
theorem dX7_clears_32 : decode cX7_clears 32 = .ok (.iadd, 1) := by decide +kernel
theorem dX7_clears_33 : decode cX7_clears 33 = .ok (.iastore, 1) := by decide +kernel
theorem dX7_clears_34 : decode cX7_clears 34 = .ok (.aload_n 0, 1) := by decide +kernel
theorem dX7_clears_35 : decode cX7_clears 35 = .ok (.iload_n 2, 1) := by decide +kernel
theorem dX7_clears_36 : decode cX7_clears 36 = .ok (.iconst 4, 1) := by decide +kernel
theorem dX7_clears_37 : decode cX7_clears 37 = .ok (.iconst 0, 1) := by decide +kernel
theorem dX7_clears_38 : decode cX7_clears 38 = .ok (.invokevirtual 87, 3) := by decide +kernel
theorem dX7_clears_41 : decode cX7_clears 41 = .ok (.aload_n 0, 1) := by decide +kernel
theorem dX7_clears_42 : decode cX7_clears 42 = .ok (.iload_n 1, 1) := by decide +kernel
theorem dX7_clears_43 : decode cX7_clears 43 = .ok (.iconst 2, 1) := by decide +kernel
theorem dX7_clears_44 : decode cX7_clears 44 = .ok (.iconst 0, 1) := by decide +kernel
theorem dX7_clears_45 : decode cX7_clears 45 = .ok (.invokevirtual 101, 3) := by decide +kernel
theorem dX7_clears_48 : decode cX7_clears 48 = .ok (.return_, 1) := by decide +kernel
theorem dX7_ploughMinute_0 : decode cX7_ploughMinute 0 = .ok (.aload_n 0, 1) := by decide +kernel
theorem dX7_ploughMinute_1 : decode cX7_ploughMinute 1 = .ok (.iload_n 1, 1) := by decide +kernel
theorem dX7_ploughMinute_2 : decode cX7_ploughMinute 2 = .ok (.iconst 1, 1) := by decide +kernel
theorem dX7_ploughMinute_3 : decode cX7_ploughMinute 3 = .ok (.invokevirtual 113, 3) := by decide +kernel
theorem dX7_ploughMinute_6 : decode cX7_ploughMinute 6 = .ok (.ifCond .ne 17, 3) := by decide +kernel
theorem dX7_ploughMinute_9 : decode cX7_ploughMinute 9 = .ok (.aload_n 0, 1) := by decide +kernel
theorem dX7_ploughMinute_10 : decode cX7_ploughMinute 10 = .ok (.iload_n 1, 1) := by decide +kernel
theorem dX7_ploughMinute_11 : decode cX7_ploughMinute 11 = .ok (.iconst 3, 1) := by decide +kernel
theorem dX7_ploughMinute_12 : decode cX7_ploughMinute 12 = .ok (.invokevirtual 113, 3) := by decide +kernel
theorem dX7_ploughMinute_15 : decode cX7_ploughMinute 15 = .ok (.ifCond .le 8, 3) := by decide +kernel
theorem dX7_ploughMinute_18 : decode cX7_ploughMinute 18 = .ok (.aload_n 0, 1) := by decide +kernel
theorem dX7_ploughMinute_19 : decode cX7_ploughMinute 19 = .ok (.iload_n 1, 1) := by decide +kernel
theorem dX7_ploughMinute_20 : decode cX7_ploughMinute 20 = .ok (.invokevirtual 141, 3) := by decide +kernel
theorem dX7_ploughMinute_23 : decode cX7_ploughMinute 23 = .ok (.aload_n 0, 1) := by decide +kernel
theorem dX7_ploughMinute_24 : decode cX7_ploughMinute 24 = .ok (.iload_n 1, 1) := by decide +kernel
theorem dX7_ploughMinute_25 : decode cX7_ploughMinute 25 = .ok (.iconst 1, 1) := by decide +kernel
theorem dX7_ploughMinute_26 : decode cX7_ploughMinute 26 = .ok (.invokevirtual 113, 3) := by decide +kernel
theorem dX7_ploughMinute_29 : decode cX7_ploughMinute 29 = .ok (.ifCond .ne 5, 3) := by decide +kernel
theorem dX7_ploughMinute_32 : decode cX7_ploughMinute 32 = .ok (.iconst (-1), 1) := by decide +kernel
theorem dX7_ploughMinute_33 : decode cX7_ploughMinute 33 = .ok (.ireturn, 1) := by decide +kernel
theorem dX7_ploughMinute_34 : decode cX7_ploughMinute 34 = .ok (.aload_n 0, 1) := by decide +kernel
theorem dX7_ploughMinute_35 : decode cX7_ploughMinute 35 = .ok (.iload_n 1, 1) := by decide +kernel
theorem dX7_ploughMinute_36 : decode cX7_ploughMinute 36 = .ok (.iconst 1, 1) := by decide +kernel
theorem dX7_ploughMinute_37 : decode cX7_ploughMinute 37 = .ok (.aload_n 0, 1) := by decide +kernel
theorem dX7_ploughMinute_38 : decode cX7_ploughMinute 38 = .ok (.iload_n 1, 1) := by decide +kernel
theorem dX7_ploughMinute_39 : decode cX7_ploughMinute 39 = .ok (.iconst 1, 1) := by decide +kernel
theorem dX7_ploughMinute_40 : decode cX7_ploughMinute 40 = .ok (.invokevirtual 113, 3) := by decide +kernel
theorem dX7_ploughMinute_43 : decode cX7_ploughMinute 43 = .ok (.iconst 1, 1) := by decide +kernel
theorem dX7_ploughMinute_44 : decode cX7_ploughMinute 44 = .ok (.isub, 1) := by decide +kernel
theorem dX7_ploughMinute_45 : decode cX7_ploughMinute 45 = .ok (.invokevirtual 101, 3) := by decide +kernel
theorem dX7_ploughMinute_48 : decode cX7_ploughMinute 48 = .ok (.aload_n 0, 1) := by decide +kernel
theorem dX7_ploughMinute_49 : decode cX7_ploughMinute 49 = .ok (.iload_n 1, 1) := by decide +kernel
theorem dX7_ploughMinute_50 : decode cX7_ploughMinute 50 = .ok (.iconst 1, 1) := by decide +kernel
theorem dX7_ploughMinute_51 : decode cX7_ploughMinute 51 = .ok (.invokevirtual 113, 3) := by decide +kernel
theorem dX7_ploughMinute_54 : decode cX7_ploughMinute 54 = .ok (.ifCond .le 5, 3) := by decide +kernel
theorem dX7_ploughMinute_57 : decode cX7_ploughMinute 57 = .ok (.iconst (-1), 1) := by decide +kernel
theorem dX7_ploughMinute_58 : decode cX7_ploughMinute 58 = .ok (.ireturn, 1) := by decide +kernel
theorem dX7_ploughMinute_59 : decode cX7_ploughMinute 59 = .ok (.aload_n 0, 1) := by decide +kernel
theorem dX7_ploughMinute_60 : decode cX7_ploughMinute 60 = .ok (.iload_n 1, 1) := by decide +kernel
theorem dX7_ploughMinute_61 : decode cX7_ploughMinute 61 = .ok (.iconst 2, 1) := by decide +kernel
theorem dX7_ploughMinute_62 : decode cX7_ploughMinute 62 = .ok (.invokevirtual 113, 3) := by decide +kernel
theorem dX7_ploughMinute_65 : decode cX7_ploughMinute 65 = .ok (.istore_n 2, 1) := by decide +kernel
theorem dX7_ploughMinute_66 : decode cX7_ploughMinute 66 = .ok (.aload_n 0, 1) := by decide +kernel
theorem dX7_ploughMinute_67 : decode cX7_ploughMinute 67 = .ok (.iload_n 1, 1) := by decide +kernel
theorem dX7_ploughMinute_68 : decode cX7_ploughMinute 68 = .ok (.invokevirtual 144, 3) := by decide +kernel
theorem dX7_ploughMinute_71 : decode cX7_ploughMinute 71 = .ok (.iload_n 2, 1) := by decide +kernel
theorem dX7_ploughMinute_72 : decode cX7_ploughMinute 72 = .ok (.ireturn, 1) := by decide +kernel
theorem dX7_drifts_0 : decode cX7_drifts 0 = .ok (.aload_n 0, 1) := by decide +kernel
theorem dX7_drifts_1 : decode cX7_drifts 1 = .ok (.getfield 9, 3) := by decide +kernel
theorem dX7_drifts_4 : decode cX7_drifts 4 = .ok (.iconst 1, 1) := by decide +kernel
theorem dX7_drifts_5 : decode cX7_drifts 5 = .ok (.iaload, 1) := by decide +kernel
theorem dX7_drifts_6 : decode cX7_drifts 6 = .ok (.istore_n 1, 1) := by decide +kernel
theorem dX7_drifts_7 : decode cX7_drifts 7 = .ok (.iconst 0, 1) := by decide +kernel
theorem dX7_drifts_8 : decode cX7_drifts 8 = .ok (.istore_n 2, 1) := by decide +kernel
theorem dX7_drifts_9 : decode cX7_drifts 9 = .ok (.iload_n 2, 1) := by decide +kernel
theorem dX7_drifts_10 : decode cX7_drifts 10 = .ok (.iload_n 1, 1) := by decide +kernel
theorem dX7_drifts_11 : decode cX7_drifts 11 = .ok (.if_icmp .ge 32, 3) := by decide +kernel
theorem dX7_drifts_14 : decode cX7_drifts 14 = .ok (.aload_n 0, 1) := by decide +kernel
theorem dX7_drifts_15 : decode cX7_drifts 15 = .ok (.getfield 28, 3) := by decide +kernel
theorem dX7_drifts_18 : decode cX7_drifts 18 = .ok (.iload_n 2, 1) := by decide +kernel
theorem dX7_drifts_19 : decode cX7_drifts 19 = .ok (.aload_n 0, 1) := by decide +kernel
theorem dX7_drifts_20 : decode cX7_drifts 20 = .ok (.getfield 9, 3) := by decide +kernel
theorem dX7_drifts_23 : decode cX7_drifts 23 = .ok (.iconst 5, 1) := by decide +kernel
theorem dX7_drifts_24 : decode cX7_drifts 24 = .ok (.iaload, 1) := by decide +kernel
theorem dX7_drifts_25 : decode cX7_drifts 25 = .ok (.aload_n 0, 1) := by decide +kernel
theorem dX7_drifts_26 : decode cX7_drifts 26 = .ok (.iload_n 2, 1) := by decide +kernel
theorem dX7_drifts_27 : decode cX7_drifts 27 = .ok (.iconst 4, 1) := by decide +kernel
theorem dX7_drifts_28 : decode cX7_drifts 28 = .ok (.invokevirtual 61, 3) := by decide +kernel
theorem dX7_drifts_31 : decode cX7_drifts 31 = .ok (.iconst 4, 1) := by decide +kernel
theorem dX7_drifts_32 : decode cX7_drifts 32 = .ok (.idiv, 1) := by decide +kernel
theorem dX7_drifts_33 : decode cX7_drifts 33 = .ok (.invokestatic 69, 3) := by decide +kernel
theorem dX7_drifts_36 : decode cX7_drifts 36 = .ok (.iastore, 1) := by decide +kernel
theorem dX7_drifts_37 : decode cX7_drifts 37 = .ok (.iinc 2 1, 3) := by decide +kernel
theorem dX7_drifts_40 : decode cX7_drifts 40 = .ok (.goto (-31), 3) := by decide +kernel
theorem dX7_drifts_43 : decode cX7_drifts 43 = .ok (.iconst 0, 1) := by decide +kernel
theorem dX7_drifts_44 : decode cX7_drifts 44 = .ok (.istore_n 2, 1) := by decide +kernel
theorem dX7_drifts_45 : decode cX7_drifts 45 = .ok (.iload_n 2, 1) := by decide +kernel
theorem dX7_drifts_46 : decode cX7_drifts 46 = .ok (.iload_n 1, 1) := by decide +kernel
theorem dX7_drifts_47 : decode cX7_drifts 47 = .ok (.if_icmp .ge 64, 3) := by decide +kernel
theorem dX7_drifts_50 : decode cX7_drifts 50 = .ok (.iload_n 1, 1) := by decide +kernel
theorem dX7_drifts_51 : decode cX7_drifts 51 = .ok (.iconst 1, 1) := by decide +kernel
theorem dX7_drifts_52 : decode cX7_drifts 52 = .ok (.if_icmp .le 59, 3) := by decide +kernel
theorem dX7_drifts_55 : decode cX7_drifts 55 = .ok (.iload_n 2, 1) := by decide +kernel
theorem dX7_drifts_56 : decode cX7_drifts 56 = .ok (.ifCond .ne 9, 3) := by decide +kernel
theorem dX7_drifts_59 : decode cX7_drifts 59 = .ok (.iload_n 1, 1) := by decide +kernel
theorem dX7_drifts_60 : decode cX7_drifts 60 = .ok (.iconst 1, 1) := by decide +kernel
theorem dX7_drifts_61 : decode cX7_drifts 61 = .ok (.isub, 1) := by decide +kernel
theorem dX7_drifts_62 : decode cX7_drifts 62 = .ok (.goto 6, 3) := by decide +kernel
theorem dX7_drifts_65 : decode cX7_drifts 65 = .ok (.iload_n 2, 1) := by decide +kernel
theorem dX7_drifts_66 : decode cX7_drifts 66 = .ok (.iconst 1, 1) := by decide +kernel
theorem dX7_drifts_67 : decode cX7_drifts 67 = .ok (.isub, 1) := by decide +kernel
theorem dX7_drifts_68 : decode cX7_drifts 68 = .ok (.istore_n 3, 1) := by decide +kernel
theorem dX7_drifts_69 : decode cX7_drifts 69 = .ok (.aload_n 0, 1) := by decide +kernel
theorem dX7_drifts_70 : decode cX7_drifts 70 = .ok (.iload_n 2, 1) := by decide +kernel
theorem dX7_drifts_71 : decode cX7_drifts 71 = .ok (.iconst 4, 1) := by decide +kernel
theorem dX7_drifts_72 : decode cX7_drifts 72 = .ok (.invokevirtual 61, 3) := by decide +kernel
theorem dX7_drifts_75 : decode cX7_drifts 75 = .ok (.aload_n 0, 1) := by decide +kernel
theorem dX7_drifts_76 : decode cX7_drifts 76 = .ok (.getfield 28, 3) := by decide +kernel
theorem dX7_drifts_79 : decode cX7_drifts 79 = .ok (.iload_n 2, 1) := by decide +kernel
theorem dX7_drifts_80 : decode cX7_drifts 80 = .ok (.iaload, 1) := by decide +kernel
theorem dX7_drifts_81 : decode cX7_drifts 81 = .ok (.isub, 1) := by decide +kernel
theorem dX7_drifts_82 : decode cX7_drifts 82 = .ok (.aload_n 0, 1) := by decide +kernel
theorem dX7_drifts_83 : decode cX7_drifts 83 = .ok (.getfield 28, 3) := by decide +kernel
theorem dX7_drifts_86 : decode cX7_drifts 86 = .ok (.iload_n 3, 1) := by decide +kernel
theorem dX7_drifts_87 : decode cX7_drifts 87 = .ok (.iaload, 1) := by decide +kernel
theorem dX7_drifts_88 : decode cX7_drifts 88 = .ok (.iadd, 1) := by decide +kernel
theorem dX7_drifts_89 : decode cX7_drifts 89 = .ok (.istore 4, 2) := by decide +kernel
theorem dX7_drifts_91 : decode cX7_drifts 91 = .ok (.aload_n 0, 1) := by decide +kernel
theorem dX7_drifts_92 : decode cX7_drifts 92 = .ok (.iload_n 2, 1) := by decide +kernel
theorem dX7_drifts_93 : decode cX7_drifts 93 = .ok (.iconst 4, 1) := by decide +kernel
theorem dX7_drifts_94 : decode cX7_drifts 94 = .ok (.sipush 200, 3) := by decide +kernel
theorem dX7_drifts_97 : decode cX7_drifts 97 = .ok (.iload 4, 2) := by decide +kernel
theorem dX7_drifts_99 : decode cX7_drifts 99 = .ok (.invokestatic 69, 3) := by decide +kernel
theorem dX7_drifts_102 : decode cX7_drifts 102 = .ok (.invokevirtual 87, 3) := by decide +kernel
theorem dX7_drifts_105 : decode cX7_drifts 105 = .ok (.iinc 2 1, 3) := by decide +kernel
theorem dX7_drifts_108 : decode cX7_drifts 108 = .ok (.goto (-63), 3) := by decide +kernel
theorem dX7_drifts_111 : decode cX7_drifts 111 = .ok (.return_, 1) := by decide +kernel
theorem dX7_hourEnds_0 : decode cX7_hourEnds 0 = .ok (.iconst 0, 1) := by decide +kernel
theorem dX7_hourEnds_1 : decode cX7_hourEnds 1 = .ok (.istore_n 1, 1) := by decide +kernel
theorem dX7_hourEnds_2 : decode cX7_hourEnds 2 = .ok (.iload_n 1, 1) := by decide +kernel
theorem dX7_hourEnds_3 : decode cX7_hourEnds 3 = .ok (.aload_n 0, 1) := by decide +kernel
theorem dX7_hourEnds_4 : decode cX7_hourEnds 4 = .ok (.getfield 9, 3) := by decide +kernel
theorem dX7_hourEnds_7 : decode cX7_hourEnds 7 = .ok (.iconst 1, 1) := by decide +kernel
theorem dX7_hourEnds_8 : decode cX7_hourEnds 8 = .ok (.iaload, 1) := by decide +kernel
theorem dX7_hourEnds_9 : decode cX7_hourEnds 9 = .ok (.if_icmp .ge 60, 3) := by decide +kernel
theorem dX7_hourEnds_12 : decode cX7_hourEnds 12 = .ok (.sipush 200, 3) := by decide +kernel
theorem dX7_hourEnds_15 : decode cX7_hourEnds 15 = .ok (.aload_n 0, 1) := by decide +kernel
theorem dX7_hourEnds_16 : decode cX7_hourEnds 16 = .ok (.iload_n 1, 1) := by decide +kernel
theorem dX7_hourEnds_17 : decode cX7_hourEnds 17 = .ok (.iconst 4, 1) := by decide +kernel
theorem dX7_hourEnds_18 : decode cX7_hourEnds 18 = .ok (.invokevirtual 61, 3) := by decide +kernel
theorem dX7_hourEnds_21 : decode cX7_hourEnds 21 = .ok (.aload_n 0, 1) := by decide +kernel
theorem dX7_hourEnds_22 : decode cX7_hourEnds 22 = .ok (.getfield 9, 3) := by decide +kernel
theorem dX7_hourEnds_25 : decode cX7_hourEnds 25 = .ok (.iconst 4, 1) := by decide +kernel
theorem dX7_hourEnds_26 : decode cX7_hourEnds 26 = .ok (.iaload, 1) := by decide +kernel
theorem dX7_hourEnds_27 : decode cX7_hourEnds 27 = .ok (.iadd, 1) := by decide +kernel
theorem dX7_hourEnds_28 : decode cX7_hourEnds 28 = .ok (.invokestatic 69, 3) := by decide +kernel
theorem dX7_hourEnds_31 : decode cX7_hourEnds 31 = .ok (.istore_n 2, 1) := by decide +kernel
theorem dX7_hourEnds_32 : decode cX7_hourEnds 32 = .ok (.aload_n 0, 1) := by decide +kernel
theorem dX7_hourEnds_33 : decode cX7_hourEnds 33 = .ok (.iload_n 1, 1) := by decide +kernel
theorem dX7_hourEnds_34 : decode cX7_hourEnds 34 = .ok (.invokevirtual 122, 3) := by decide +kernel
theorem dX7_hourEnds_37 : decode cX7_hourEnds 37 = .ok (.ifCond .eq 9, 3) := by decide +kernel
theorem dX7_hourEnds_40 : decode cX7_hourEnds 40 = .ok (.iload_n 2, 1) := by decide +kernel
theorem dX7_hourEnds_41 : decode cX7_hourEnds 41 = .ok (.iconst 3, 1) := by decide +kernel
theorem dX7_hourEnds_42 : decode cX7_hourEnds 42 = .ok (.isub, 1) := by decide +kernel
theorem dX7_hourEnds_43 : decode cX7_hourEnds 43 = .ok (.goto 4, 3) := by decide +kernel
theorem dX7_hourEnds_46 : decode cX7_hourEnds 46 = .ok (.iload_n 2, 1) := by decide +kernel
theorem dX7_hourEnds_47 : decode cX7_hourEnds 47 = .ok (.istore_n 2, 1) := by decide +kernel
theorem dX7_hourEnds_48 : decode cX7_hourEnds 48 = .ok (.aload_n 0, 1) := by decide +kernel
theorem dX7_hourEnds_49 : decode cX7_hourEnds 49 = .ok (.iload_n 1, 1) := by decide +kernel
theorem dX7_hourEnds_50 : decode cX7_hourEnds 50 = .ok (.iconst 4, 1) := by decide +kernel
theorem dX7_hourEnds_51 : decode cX7_hourEnds 51 = .ok (.iload_n 2, 1) := by decide +kernel
theorem dX7_hourEnds_52 : decode cX7_hourEnds 52 = .ok (.ifCond .ge 7, 3) := by decide +kernel
theorem dX7_hourEnds_55 : decode cX7_hourEnds 55 = .ok (.iconst 0, 1) := by decide +kernel
theorem dX7_hourEnds_56 : decode cX7_hourEnds 56 = .ok (.goto 4, 3) := by decide +kernel
theorem dX7_hourEnds_59 : decode cX7_hourEnds 59 = .ok (.iload_n 2, 1) := by decide +kernel
theorem dX7_hourEnds_60 : decode cX7_hourEnds 60 = .ok (.invokevirtual 87, 3) := by decide +kernel
theorem dX7_hourEnds_63 : decode cX7_hourEnds 63 = .ok (.iinc 1 1, 3) := by decide +kernel
theorem dX7_hourEnds_66 : decode cX7_hourEnds 66 = .ok (.goto (-64), 3) := by decide +kernel
theorem dX7_hourEnds_69 : decode cX7_hourEnds 69 = .ok (.aload_n 0, 1) := by decide +kernel
theorem dX7_hourEnds_70 : decode cX7_hourEnds 70 = .ok (.invokevirtual 147, 3) := by decide +kernel
theorem dX7_hourEnds_73 : decode cX7_hourEnds 73 = .ok (.iconst 0, 1) := by decide +kernel
theorem dX7_hourEnds_74 : decode cX7_hourEnds 74 = .ok (.istore_n 1, 1) := by decide +kernel
theorem dX7_hourEnds_75 : decode cX7_hourEnds 75 = .ok (.iload_n 1, 1) := by decide +kernel
theorem dX7_hourEnds_76 : decode cX7_hourEnds 76 = .ok (.aload_n 0, 1) := by decide +kernel
theorem dX7_hourEnds_77 : decode cX7_hourEnds 77 = .ok (.getfield 9, 3) := by decide +kernel
theorem dX7_hourEnds_80 : decode cX7_hourEnds 80 = .ok (.iconst 1, 1) := by decide +kernel
theorem dX7_hourEnds_81 : decode cX7_hourEnds 81 = .ok (.iaload, 1) := by decide +kernel
theorem dX7_hourEnds_82 : decode cX7_hourEnds 82 = .ok (.if_icmp .ge 44, 3) := by decide +kernel
theorem dX7_hourEnds_85 : decode cX7_hourEnds 85 = .ok (.aload_n 0, 1) := by decide +kernel
theorem dX7_hourEnds_86 : decode cX7_hourEnds 86 = .ok (.iload_n 1, 1) := by decide +kernel
theorem dX7_hourEnds_87 : decode cX7_hourEnds 87 = .ok (.invokevirtual 150, 3) := by decide +kernel
theorem dX7_hourEnds_90 : decode cX7_hourEnds 90 = .ok (.ifCond .eq 30, 3) := by decide +kernel
theorem dX7_hourEnds_93 : decode cX7_hourEnds 93 = .ok (.aload_n 0, 1) := by decide +kernel
theorem dX7_hourEnds_94 : decode cX7_hourEnds 94 = .ok (.iload_n 1, 1) := by decide +kernel
theorem dX7_hourEnds_95 : decode cX7_hourEnds 95 = .ok (.bipush 6, 2) := by decide +kernel
theorem dX7_hourEnds_97 : decode cX7_hourEnds 97 = .ok (.aload_n 0, 1) := by decide +kernel
theorem dX7_hourEnds_98 : decode cX7_hourEnds 98 = .ok (.iload_n 1, 1) := by decide +kernel
theorem dX7_hourEnds_99 : decode cX7_hourEnds 99 = .ok (.bipush 6, 2) := by decide +kernel
theorem dX7_hourEnds_101 : decode cX7_hourEnds 101 = .ok (.invokevirtual 61, 3) := by decide +kernel
theorem dX7_hourEnds_104 : decode cX7_hourEnds 104 = .ok (.iconst 1, 1) := by decide +kernel
theorem dX7_hourEnds_105 : decode cX7_hourEnds 105 = .ok (.iadd, 1) := by decide +kernel
theorem dX7_hourEnds_106 : decode cX7_hourEnds 106 = .ok (.invokevirtual 87, 3) := by decide +kernel
theorem dX7_hourEnds_109 : decode cX7_hourEnds 109 = .ok (.aload_n 0, 1) := by decide +kernel
theorem dX7_hourEnds_110 : decode cX7_hourEnds 110 = .ok (.getfield 9, 3) := by decide +kernel
theorem dX7_hourEnds_113 : decode cX7_hourEnds 113 = .ok (.bipush 9, 2) := by decide +kernel
theorem dX7_hourEnds_115 : decode cX7_hourEnds 115 = .ok (.dup2, 1) := by decide +kernel
theorem dX7_hourEnds_116 : decode cX7_hourEnds 116 = .ok (.iaload, 1) := by decide +kernel
theorem dX7_hourEnds_117 : decode cX7_hourEnds 117 = .ok (.iconst 1, 1) := by decide +kernel
theorem dX7_hourEnds_118 : decode cX7_hourEnds 118 = .ok (.iadd, 1) := by decide +kernel
theorem dX7_hourEnds_119 : decode cX7_hourEnds 119 = .ok (.iastore, 1) := by decide +kernel
theorem dX7_hourEnds_120 : decode cX7_hourEnds 120 = .ok (.iinc 1 1, 3) := by decide +kernel
theorem dX7_hourEnds_123 : decode cX7_hourEnds 123 = .ok (.goto (-48), 3) := by decide +kernel
theorem dX7_hourEnds_126 : decode cX7_hourEnds 126 = .ok (.return_, 1) := by decide +kernel
theorem dX7_minutePasses_0 : decode cX7_minutePasses 0 = .ok (.iconst 0, 1) := by decide +kernel
theorem dX7_minutePasses_1 : decode cX7_minutePasses 1 = .ok (.istore_n 2, 1) := by decide +kernel
theorem dX7_minutePasses_2 : decode cX7_minutePasses 2 = .ok (.aload_n 0, 1) := by decide +kernel
theorem dX7_minutePasses_3 : decode cX7_minutePasses 3 = .ok (.getfield 9, 3) := by decide +kernel
theorem dX7_minutePasses_6 : decode cX7_minutePasses 6 = .ok (.iconst 0, 1) := by decide +kernel
theorem dX7_minutePasses_7 : decode cX7_minutePasses 7 = .ok (.dup2, 1) := by decide +kernel
theorem dX7_minutePasses_8 : decode cX7_minutePasses 8 = .ok (.iaload, 1) := by decide +kernel
theorem dX7_minutePasses_9 : decode cX7_minutePasses 9 = .ok (.iconst 1, 1) := by decide +kernel
theorem dX7_minutePasses_10 : decode cX7_minutePasses 10 = .ok (.iadd, 1) := by decide +kernel
theorem dX7_minutePasses_11 : decode cX7_minutePasses 11 = .ok (.iastore, 1) := by decide +kernel
theorem dX7_minutePasses_12 : decode cX7_minutePasses 12 = .ok (.iconst 0, 1) := by decide +kernel
theorem dX7_minutePasses_13 : decode cX7_minutePasses 13 = .ok (.istore_n 3, 1) := by decide +kernel
theorem dX7_minutePasses_14 : decode cX7_minutePasses 14 = .ok (.iload_n 3, 1) := by decide +kernel
theorem dX7_minutePasses_15 : decode cX7_minutePasses 15 = .ok (.aload_n 0, 1) := by decide +kernel
theorem dX7_minutePasses_16 : decode cX7_minutePasses 16 = .ok (.getfield 9, 3) := by decide +kernel
theorem dX7_minutePasses_19 : decode cX7_minutePasses 19 = .ok (.iconst 2, 1) := by decide +kernel
theorem dX7_minutePasses_20 : decode cX7_minutePasses 20 = .ok (.iaload, 1) := by decide +kernel
theorem dX7_minutePasses_21 : decode cX7_minutePasses 21 = .ok (.if_icmp .ge 26, 3) := by decide +kernel
theorem dX7_minutePasses_24 : decode cX7_minutePasses 24 = .ok (.iload_n 2, 1) := by decide +kernel
theorem dX7_minutePasses_25 : decode cX7_minutePasses 25 = .ok (.aload_n 0, 1) := by decide +kernel
theorem dX7_minutePasses_26 : decode cX7_minutePasses 26 = .ok (.iload_n 3, 1) := by decide +kernel
theorem dX7_minutePasses_27 : decode cX7_minutePasses 27 = .ok (.invokevirtual 153, 3) := by decide +kernel
theorem dX7_minutePasses_30 : decode cX7_minutePasses 30 = .ok (.iload_n 1, 1) := by decide +kernel
theorem dX7_minutePasses_31 : decode cX7_minutePasses 31 = .ok (.if_icmp .ne 7, 3) := by decide +kernel
theorem dX7_minutePasses_34 : decode cX7_minutePasses 34 = .ok (.iconst 1, 1) := by decide +kernel
theorem dX7_minutePasses_35 : decode cX7_minutePasses 35 = .ok (.goto 4, 3) := by decide +kernel
theorem dX7_minutePasses_38 : decode cX7_minutePasses 38 = .ok (.iconst 0, 1) := by decide +kernel
theorem dX7_minutePasses_39 : decode cX7_minutePasses 39 = .ok (.ior, 1) := by decide +kernel
theorem dX7_minutePasses_40 : decode cX7_minutePasses 40 = .ok (.istore_n 2, 1) := by decide +kernel
theorem dX7_minutePasses_41 : decode cX7_minutePasses 41 = .ok (.iinc 3 1, 3) := by decide +kernel
theorem dX7_minutePasses_44 : decode cX7_minutePasses 44 = .ok (.goto (-30), 3) := by decide +kernel
theorem dX7_minutePasses_47 : decode cX7_minutePasses 47 = .ok (.aload_n 0, 1) := by decide +kernel
theorem dX7_minutePasses_48 : decode cX7_minutePasses 48 = .ok (.getfield 9, 3) := by decide +kernel
theorem dX7_minutePasses_51 : decode cX7_minutePasses 51 = .ok (.iconst 0, 1) := by decide +kernel
theorem dX7_minutePasses_52 : decode cX7_minutePasses 52 = .ok (.iaload, 1) := by decide +kernel
theorem dX7_minutePasses_53 : decode cX7_minutePasses 53 = .ok (.bipush 60, 2) := by decide +kernel
theorem dX7_minutePasses_55 : decode cX7_minutePasses 55 = .ok (.irem, 1) := by decide +kernel
theorem dX7_minutePasses_56 : decode cX7_minutePasses 56 = .ok (.ifCond .ne 7, 3) := by decide +kernel
theorem dX7_minutePasses_59 : decode cX7_minutePasses 59 = .ok (.aload_n 0, 1) := by decide +kernel
theorem dX7_minutePasses_60 : decode cX7_minutePasses 60 = .ok (.invokevirtual 156, 3) := by decide +kernel
theorem dX7_minutePasses_63 : decode cX7_minutePasses 63 = .ok (.iload_n 2, 1) := by decide +kernel
theorem dX7_minutePasses_64 : decode cX7_minutePasses 64 = .ok (.ireturn, 1) := by decide +kernel
theorem dX7_waits_0 : decode cX7_waits 0 = .ok (.aload_n 0, 1) := by decide +kernel
theorem dX7_waits_1 : decode cX7_waits 1 = .ok (.iload_n 1, 1) := by decide +kernel
theorem dX7_waits_2 : decode cX7_waits 2 = .ok (.iconst 1, 1) := by decide +kernel
theorem dX7_waits_3 : decode cX7_waits 3 = .ok (.sipush 600, 3) := by decide +kernel
theorem dX7_waits_6 : decode cX7_waits 6 = .ok (.invokestatic 57, 3) := by decide +kernel
theorem dX7_waits_9 : decode cX7_waits 9 = .ok (.ifCond .ne 7, 3) := by decide +kernel
theorem dX7_waits_12 : decode cX7_waits 12 = .ok (.iconst 1, 1) := by decide +kernel
theorem dX7_waits_13 : decode cX7_waits 13 = .ok (.goto 4, 3) := by decide +kernel
theorem dX7_waits_16 : decode cX7_waits 16 = .ok (.iconst 0, 1) := by decide +kernel
theorem dX7_waits_17 : decode cX7_waits 17 = .ok (.iconst 1, 1) := by decide +kernel
theorem dX7_waits_18 : decode cX7_waits 18 = .ok (.invokevirtual 79, 3) := by decide +kernel
theorem dX7_waits_21 : decode cX7_waits 21 = .ok (.ifCond .eq 5, 3) := by decide +kernel
theorem dX7_waits_24 : decode cX7_waits 24 = .ok (.iconst 0, 1) := by decide +kernel
theorem dX7_waits_25 : decode cX7_waits 25 = .ok (.ireturn, 1) := by decide +kernel
theorem dX7_waits_26 : decode cX7_waits 26 = .ok (.aload_n 0, 1) := by decide +kernel
theorem dX7_waits_27 : decode cX7_waits 27 = .ok (.getfield 9, 3) := by decide +kernel
theorem dX7_waits_30 : decode cX7_waits 30 = .ok (.bipush 6, 2) := by decide +kernel
theorem dX7_waits_32 : decode cX7_waits 32 = .ok (.iaload, 1) := by decide +kernel
theorem dX7_waits_33 : decode cX7_waits 33 = .ok (.istore_n 2, 1) := by decide +kernel
theorem dX7_waits_34 : decode cX7_waits 34 = .ok (.iconst 0, 1) := by decide +kernel
theorem dX7_waits_35 : decode cX7_waits 35 = .ok (.istore_n 3, 1) := by decide +kernel
theorem dX7_waits_36 : decode cX7_waits 36 = .ok (.iload_n 3, 1) := by decide +kernel
theorem dX7_waits_37 : decode cX7_waits 37 = .ok (.iload_n 1, 1) := by decide +kernel
theorem dX7_waits_38 : decode cX7_waits 38 = .ok (.if_icmp .ge 27, 3) := by decide +kernel
theorem dX7_waits_41 : decode cX7_waits 41 = .ok (.aload_n 0, 1) := by decide +kernel
theorem dX7_waits_42 : decode cX7_waits 42 = .ok (.aload_n 0, 1) := by decide +kernel
theorem dX7_waits_43 : decode cX7_waits 43 = .ok (.bipush 12, 2) := by decide +kernel
theorem dX7_waits_45 : decode cX7_waits 45 = .ok (.invokevirtual 159, 3) := by decide +kernel
theorem dX7_waits_48 : decode cX7_waits 48 = .ok (.ifCond .eq 7, 3) := by decide +kernel
theorem dX7_waits_51 : decode cX7_waits 51 = .ok (.iconst 1, 1) := by decide +kernel
theorem dX7_waits_52 : decode cX7_waits 52 = .ok (.goto 4, 3) := by decide +kernel
theorem dX7_waits_55 : decode cX7_waits 55 = .ok (.iconst 0, 1) := by decide +kernel
theorem dX7_waits_56 : decode cX7_waits 56 = .ok (.putfield 162, 3) := by decide +kernel
theorem dX7_waits_59 : decode cX7_waits 59 = .ok (.iinc 3 1, 3) := by decide +kernel
theorem dX7_waits_62 : decode cX7_waits 62 = .ok (.goto (-26), 3) := by decide +kernel
theorem dX7_waits_65 : decode cX7_waits 65 = .ok (.aload_n 0, 1) := by decide +kernel
theorem dX7_waits_66 : decode cX7_waits 66 = .ok (.getfield 9, 3) := by decide +kernel
theorem dX7_waits_69 : decode cX7_waits 69 = .ok (.bipush 6, 2) := by decide +kernel
theorem dX7_waits_71 : decode cX7_waits 71 = .ok (.iaload, 1) := by decide +kernel
theorem dX7_waits_72 : decode cX7_waits 72 = .ok (.iload_n 2, 1) := by decide +kernel
theorem dX7_waits_73 : decode cX7_waits 73 = .ok (.isub, 1) := by decide +kernel
theorem dX7_waits_74 : decode cX7_waits 74 = .ok (.ireturn, 1) := by decide +kernel
theorem dX7_advance_0 : decode cX7_advance 0 = .ok (.aload_n 0, 1) := by decide +kernel
theorem dX7_advance_1 : decode cX7_advance 1 = .ok (.invokevirtual 91, 3) := by decide +kernel
theorem dX7_advance_4 : decode cX7_advance 4 = .ok (.aload_n 0, 1) := by decide +kernel
theorem dX7_advance_5 : decode cX7_advance 5 = .ok (.aload_n 0, 1) := by decide +kernel
theorem dX7_advance_6 : decode cX7_advance 6 = .ok (.iload_n 1, 1) := by decide +kernel
theorem dX7_advance_7 : decode cX7_advance 7 = .ok (.invokevirtual 165, 3) := by decide +kernel
theorem dX7_advance_10 : decode cX7_advance 10 = .ok (.invokevirtual 98, 3) := by decide +kernel
theorem dX7_advance_13 : decode cX7_advance 13 = .ok (.ireturn, 1) := by decide +kernel
theorem dX7_streetCount_0 : decode cX7_streetCount 0 = .ok (.aload_n 0, 1) := by decide +kernel
theorem dX7_streetCount_1 : decode cX7_streetCount 1 = .ok (.iconst 0, 1) := by decide +kernel
theorem dX7_streetCount_2 : decode cX7_streetCount 2 = .ok (.putfield 47, 3) := by decide +kernel
theorem dX7_streetCount_5 : decode cX7_streetCount 5 = .ok (.aload_n 0, 1) := by decide +kernel
theorem dX7_streetCount_6 : decode cX7_streetCount 6 = .ok (.getfield 9, 3) := by decide +kernel
theorem dX7_streetCount_9 : decode cX7_streetCount 9 = .ok (.iconst 1, 1) := by decide +kernel
theorem dX7_streetCount_10 : decode cX7_streetCount 10 = .ok (.iaload, 1) := by decide +kernel
theorem dX7_streetCount_11 : decode cX7_streetCount 11 = .ok (.ireturn, 1) := by decide +kernel
theorem dX7_ofStreet_0 : decode cX7_ofStreet 0 = .ok (.aload_n 0, 1) := by decide +kernel
theorem dX7_ofStreet_1 : decode cX7_ofStreet 1 = .ok (.aload_n 0, 1) := by decide +kernel
theorem dX7_ofStreet_2 : decode cX7_ofStreet 2 = .ok (.iload_n 1, 1) := by decide +kernel
theorem dX7_ofStreet_3 : decode cX7_ofStreet 3 = .ok (.invokevirtual 110, 3) := by decide +kernel
theorem dX7_ofStreet_6 : decode cX7_ofStreet 6 = .ok (.ifCond .ne 7, 3) := by decide +kernel
theorem dX7_ofStreet_9 : decode cX7_ofStreet 9 = .ok (.iconst 1, 1) := by decide +kernel
theorem dX7_ofStreet_10 : decode cX7_ofStreet 10 = .ok (.goto 4, 3) := by decide +kernel
theorem dX7_ofStreet_13 : decode cX7_ofStreet 13 = .ok (.iconst 0, 1) := by decide +kernel
theorem dX7_ofStreet_14 : decode cX7_ofStreet 14 = .ok (.iconst 1, 1) := by decide +kernel
theorem dX7_ofStreet_15 : decode cX7_ofStreet 15 = .ok (.invokevirtual 79, 3) := by decide +kernel
theorem dX7_ofStreet_18 : decode cX7_ofStreet 18 = .ok (.ifCond .eq 7, 3) := by decide +kernel
theorem dX7_ofStreet_21 : decode cX7_ofStreet 21 = .ok (.iconst 0, 1) := by decide +kernel
theorem dX7_ofStreet_22 : decode cX7_ofStreet 22 = .ok (.goto 9, 3) := by decide +kernel
theorem dX7_ofStreet_25 : decode cX7_ofStreet 25 = .ok (.aload_n 0, 1) := by decide +kernel
theorem dX7_ofStreet_26 : decode cX7_ofStreet 26 = .ok (.iload_n 1, 1) := by decide +kernel
theorem dX7_ofStreet_27 : decode cX7_ofStreet 27 = .ok (.iload_n 2, 1) := by decide +kernel
theorem dX7_ofStreet_28 : decode cX7_ofStreet 28 = .ok (.invokevirtual 61, 3) := by decide +kernel
theorem dX7_ofStreet_31 : decode cX7_ofStreet 31 = .ok (.ireturn, 1) := by decide +kernel
theorem dX7_lowerEnd_0 : decode cX7_lowerEnd 0 = .ok (.aload_n 0, 1) := by decide +kernel
theorem dX7_lowerEnd_1 : decode cX7_lowerEnd 1 = .ok (.iload_n 1, 1) := by decide +kernel
theorem dX7_lowerEnd_2 : decode cX7_lowerEnd 2 = .ok (.iconst 0, 1) := by decide +kernel
theorem dX7_lowerEnd_3 : decode cX7_lowerEnd 3 = .ok (.invokevirtual 168, 3) := by decide +kernel
theorem dX7_lowerEnd_6 : decode cX7_lowerEnd 6 = .ok (.ireturn, 1) := by decide +kernel
theorem dX7_higherEnd_0 : decode cX7_higherEnd 0 = .ok (.aload_n 0, 1) := by decide +kernel
theorem dX7_higherEnd_1 : decode cX7_higherEnd 1 = .ok (.iload_n 1, 1) := by decide +kernel
theorem dX7_higherEnd_2 : decode cX7_higherEnd 2 = .ok (.iconst 1, 1) := by decide +kernel
theorem dX7_higherEnd_3 : decode cX7_higherEnd 3 = .ok (.invokevirtual 168, 3) := by decide +kernel
theorem dX7_higherEnd_6 : decode cX7_higherEnd 6 = .ok (.ireturn, 1) := by decide +kernel
theorem dX7_streetClass_0 : decode cX7_streetClass 0 = .ok (.aload_n 0, 1) := by decide +kernel
theorem dX7_streetClass_1 : decode cX7_streetClass 1 = .ok (.iload_n 1, 1) := by decide +kernel
theorem dX7_streetClass_2 : decode cX7_streetClass 2 = .ok (.iconst 2, 1) := by decide +kernel
theorem dX7_streetClass_3 : decode cX7_streetClass 3 = .ok (.invokevirtual 168, 3) := by decide +kernel
theorem dX7_streetClass_6 : decode cX7_streetClass 6 = .ok (.i2c, 1) := by decide +kernel
theorem dX7_streetClass_7 : decode cX7_streetClass 7 = .ok (.ireturn, 1) := by decide +kernel
theorem dX7_length_0 : decode cX7_length 0 = .ok (.aload_n 0, 1) := by decide +kernel
theorem dX7_length_1 : decode cX7_length 1 = .ok (.iload_n 1, 1) := by decide +kernel
theorem dX7_length_2 : decode cX7_length 2 = .ok (.iconst 3, 1) := by decide +kernel
theorem dX7_length_3 : decode cX7_length 3 = .ok (.invokevirtual 168, 3) := by decide +kernel
theorem dX7_length_6 : decode cX7_length 6 = .ok (.ireturn, 1) := by decide +kernel
theorem dX7_depth_0 : decode cX7_depth 0 = .ok (.aload_n 0, 1) := by decide +kernel
theorem dX7_depth_1 : decode cX7_depth 1 = .ok (.iload_n 1, 1) := by decide +kernel
theorem dX7_depth_2 : decode cX7_depth 2 = .ok (.iconst 4, 1) := by decide +kernel
theorem dX7_depth_3 : decode cX7_depth 3 = .ok (.invokevirtual 168, 3) := by decide +kernel
theorem dX7_depth_6 : decode cX7_depth 6 = .ok (.ireturn, 1) := by decide +kernel
theorem dX7_isOverdue_0 : decode cX7_isOverdue 0 = .ok (.aload_n 0, 1) := by decide +kernel
theorem dX7_isOverdue_1 : decode cX7_isOverdue 1 = .ok (.aload_n 0, 1) := by decide +kernel
theorem dX7_isOverdue_2 : decode cX7_isOverdue 2 = .ok (.iload_n 1, 1) := by decide +kernel
theorem dX7_isOverdue_3 : decode cX7_isOverdue 3 = .ok (.invokevirtual 110, 3) := by decide +kernel
theorem dX7_isOverdue_6 : decode cX7_isOverdue 6 = .ok (.ifCond .ne 7, 3) := by decide +kernel
theorem dX7_isOverdue_9 : decode cX7_isOverdue 9 = .ok (.iconst 1, 1) := by decide +kernel
theorem dX7_isOverdue_10 : decode cX7_isOverdue 10 = .ok (.goto 4, 3) := by decide +kernel
theorem dX7_isOverdue_13 : decode cX7_isOverdue 13 = .ok (.iconst 0, 1) := by decide +kernel
theorem dX7_isOverdue_14 : decode cX7_isOverdue 14 = .ok (.iconst 1, 1) := by decide +kernel
theorem dX7_isOverdue_15 : decode cX7_isOverdue 15 = .ok (.invokevirtual 79, 3) := by decide +kernel
theorem dX7_isOverdue_18 : decode cX7_isOverdue 18 = .ok (.ifCond .ne 15, 3) := by decide +kernel
theorem dX7_isOverdue_21 : decode cX7_isOverdue 21 = .ok (.aload_n 0, 1) := by decide +kernel
theorem dX7_isOverdue_22 : decode cX7_isOverdue 22 = .ok (.iload_n 1, 1) := by decide +kernel
theorem dX7_isOverdue_23 : decode cX7_isOverdue 23 = .ok (.invokevirtual 150, 3) := by decide +kernel
theorem dX7_isOverdue_26 : decode cX7_isOverdue 26 = .ok (.ifCond .eq 7, 3) := by decide +kernel
theorem dX7_isOverdue_29 : decode cX7_isOverdue 29 = .ok (.iconst 1, 1) := by decide +kernel
theorem dX7_isOverdue_30 : decode cX7_isOverdue 30 = .ok (.goto 4, 3) := by decide +kernel
theorem dX7_isOverdue_33 : decode cX7_isOverdue 33 = .ok (.iconst 0, 1) := by decide +kernel
theorem dX7_isOverdue_34 : decode cX7_isOverdue 34 = .ok (.ireturn, 1) := by decide +kernel
theorem dX7_isSalted_0 : decode cX7_isSalted 0 = .ok (.aload_n 0, 1) := by decide +kernel
theorem dX7_isSalted_1 : decode cX7_isSalted 1 = .ok (.aload_n 0, 1) := by decide +kernel
theorem dX7_isSalted_2 : decode cX7_isSalted 2 = .ok (.iload_n 1, 1) := by decide +kernel
theorem dX7_isSalted_3 : decode cX7_isSalted 3 = .ok (.invokevirtual 110, 3) := by decide +kernel
theorem dX7_isSalted_6 : decode cX7_isSalted 6 = .ok (.ifCond .ne 7, 3) := by decide +kernel
theorem dX7_isSalted_9 : decode cX7_isSalted 9 = .ok (.iconst 1, 1) := by decide +kernel
theorem dX7_isSalted_10 : decode cX7_isSalted 10 = .ok (.goto 4, 3) := by decide +kernel
theorem dX7_isSalted_13 : decode cX7_isSalted 13 = .ok (.iconst 0, 1) := by decide +kernel
theorem dX7_isSalted_14 : decode cX7_isSalted 14 = .ok (.iconst 1, 1) := by decide +kernel
theorem dX7_isSalted_15 : decode cX7_isSalted 15 = .ok (.invokevirtual 79, 3) := by decide +kernel
theorem dX7_isSalted_18 : decode cX7_isSalted 18 = .ok (.ifCond .ne 15, 3) := by decide +kernel
theorem dX7_isSalted_21 : decode cX7_isSalted 21 = .ok (.aload_n 0, 1) := by decide +kernel
theorem dX7_isSalted_22 : decode cX7_isSalted 22 = .ok (.iload_n 1, 1) := by decide +kernel
theorem dX7_isSalted_23 : decode cX7_isSalted 23 = .ok (.invokevirtual 122, 3) := by decide +kernel
theorem dX7_isSalted_26 : decode cX7_isSalted 26 = .ok (.ifCond .eq 7, 3) := by decide +kernel
theorem dX7_isSalted_29 : decode cX7_isSalted 29 = .ok (.iconst 1, 1) := by decide +kernel
theorem dX7_isSalted_30 : decode cX7_isSalted 30 = .ok (.goto 4, 3) := by decide +kernel
theorem dX7_isSalted_33 : decode cX7_isSalted 33 = .ok (.iconst 0, 1) := by decide +kernel
theorem dX7_isSalted_34 : decode cX7_isSalted 34 = .ok (.ireturn, 1) := by decide +kernel
theorem dX7_saltMinutes_0 : decode cX7_saltMinutes 0 = .ok (.aload_n 0, 1) := by decide +kernel
theorem dX7_saltMinutes_1 : decode cX7_saltMinutes 1 = .ok (.aload_n 0, 1) := by decide +kernel
theorem dX7_saltMinutes_2 : decode cX7_saltMinutes 2 = .ok (.iload_n 1, 1) := by decide +kernel
theorem dX7_saltMinutes_3 : decode cX7_saltMinutes 3 = .ok (.invokevirtual 110, 3) := by decide +kernel
theorem dX7_saltMinutes_6 : decode cX7_saltMinutes 6 = .ok (.ifCond .ne 7, 3) := by decide +kernel
theorem dX7_saltMinutes_9 : decode cX7_saltMinutes 9 = .ok (.iconst 1, 1) := by decide +kernel
theorem dX7_saltMinutes_10 : decode cX7_saltMinutes 10 = .ok (.goto 4, 3) := by decide +kernel
theorem dX7_saltMinutes_13 : decode cX7_saltMinutes 13 = .ok (.iconst 0, 1) := by decide +kernel
theorem dX7_saltMinutes_14 : decode cX7_saltMinutes 14 = .ok (.iconst 1, 1) := by decide +kernel
theorem dX7_saltMinutes_15 : decode cX7_saltMinutes 15 = .ok (.invokevirtual 79, 3) := by decide +kernel
theorem dX7_saltMinutes_18 : decode cX7_saltMinutes 18 = .ok (.ifCond .ne 24, 3) := by decide +kernel
theorem dX7_saltMinutes_21 : decode cX7_saltMinutes 21 = .ok (.aload_n 0, 1) := by decide +kernel
theorem dX7_saltMinutes_22 : decode cX7_saltMinutes 22 = .ok (.aload_n 0, 1) := by decide +kernel
theorem dX7_saltMinutes_23 : decode cX7_saltMinutes 23 = .ok (.iload_n 1, 1) := by decide +kernel
theorem dX7_saltMinutes_24 : decode cX7_saltMinutes 24 = .ok (.invokevirtual 122, 3) := by decide +kernel
theorem dX7_saltMinutes_27 : decode cX7_saltMinutes 27 = .ok (.ifCond .ne 7, 3) := by decide +kernel
theorem dX7_saltMinutes_30 : decode cX7_saltMinutes 30 = .ok (.iconst 1, 1) := by decide +kernel
theorem dX7_saltMinutes_31 : decode cX7_saltMinutes 31 = .ok (.goto 4, 3) := by decide +kernel
theorem dX7_saltMinutes_34 : decode cX7_saltMinutes 34 = .ok (.iconst 0, 1) := by decide +kernel
theorem dX7_saltMinutes_35 : decode cX7_saltMinutes 35 = .ok (.iconst 2, 1) := by decide +kernel
theorem dX7_saltMinutes_36 : decode cX7_saltMinutes 36 = .ok (.invokevirtual 79, 3) := by decide +kernel
theorem dX7_saltMinutes_39 : decode cX7_saltMinutes 39 = .ok (.ifCond .eq 7, 3) := by decide +kernel
theorem dX7_saltMinutes_42 : decode cX7_saltMinutes 42 = .ok (.iconst 0, 1) := by decide +kernel
theorem dX7_saltMinutes_43 : decode cX7_saltMinutes 43 = .ok (.goto 16, 3) := by decide +kernel
theorem dX7_saltMinutes_46 : decode cX7_saltMinutes 46 = .ok (.aload_n 0, 1) := by decide +kernel
theorem dX7_saltMinutes_47 : decode cX7_saltMinutes 47 = .ok (.iload_n 1, 1) := by decide +kernel
theorem dX7_saltMinutes_48 : decode cX7_saltMinutes 48 = .ok (.iconst 5, 1) := by decide +kernel
theorem dX7_saltMinutes_49 : decode cX7_saltMinutes 49 = .ok (.invokevirtual 61, 3) := by decide +kernel
theorem dX7_saltMinutes_52 : decode cX7_saltMinutes 52 = .ok (.aload_n 0, 1) := by decide +kernel
theorem dX7_saltMinutes_53 : decode cX7_saltMinutes 53 = .ok (.getfield 9, 3) := by decide +kernel
theorem dX7_saltMinutes_56 : decode cX7_saltMinutes 56 = .ok (.iconst 0, 1) := by decide +kernel
theorem dX7_saltMinutes_57 : decode cX7_saltMinutes 57 = .ok (.iaload, 1) := by decide +kernel
theorem dX7_saltMinutes_58 : decode cX7_saltMinutes 58 = .ok (.isub, 1) := by decide +kernel
theorem dX7_saltMinutes_59 : decode cX7_saltMinutes 59 = .ok (.ireturn, 1) := by decide +kernel
theorem dX7_complaints_0 : decode cX7_complaints 0 = .ok (.aload_n 0, 1) := by decide +kernel
theorem dX7_complaints_1 : decode cX7_complaints 1 = .ok (.iload_n 1, 1) := by decide +kernel
theorem dX7_complaints_2 : decode cX7_complaints 2 = .ok (.bipush 6, 2) := by decide +kernel
theorem dX7_complaints_4 : decode cX7_complaints 4 = .ok (.invokevirtual 168, 3) := by decide +kernel
theorem dX7_complaints_7 : decode cX7_complaints 7 = .ok (.ireturn, 1) := by decide +kernel
theorem dX7_distance_0 : decode cX7_distance 0 = .ok (.aload_n 0, 1) := by decide +kernel
theorem dX7_distance_1 : decode cX7_distance 1 = .ok (.iload_n 1, 1) := by decide +kernel
theorem dX7_distance_2 : decode cX7_distance 2 = .ok (.invokestatic 75, 3) := by decide +kernel
theorem dX7_distance_5 : decode cX7_distance 5 = .ok (.ifCond .eq 10, 3) := by decide +kernel
theorem dX7_distance_8 : decode cX7_distance 8 = .ok (.iload_n 2, 1) := by decide +kernel
theorem dX7_distance_9 : decode cX7_distance 9 = .ok (.invokestatic 75, 3) := by decide +kernel
theorem dX7_distance_12 : decode cX7_distance 12 = .ok (.ifCond .ne 7, 3) := by decide +kernel
theorem dX7_distance_15 : decode cX7_distance 15 = .ok (.iconst 1, 1) := by decide +kernel
theorem dX7_distance_16 : decode cX7_distance 16 = .ok (.goto 4, 3) := by decide +kernel
theorem dX7_distance_19 : decode cX7_distance 19 = .ok (.iconst 0, 1) := by decide +kernel
theorem dX7_distance_20 : decode cX7_distance 20 = .ok (.iconst 1, 1) := by decide +kernel
theorem dX7_distance_21 : decode cX7_distance 21 = .ok (.invokevirtual 79, 3) := by decide +kernel
theorem dX7_distance_24 : decode cX7_distance 24 = .ok (.ifCond .eq 5, 3) := by decide +kernel
theorem dX7_distance_27 : decode cX7_distance 27 = .ok (.iconst 0, 1) := by decide +kernel
theorem dX7_distance_28 : decode cX7_distance 28 = .ok (.ireturn, 1) := by decide +kernel
theorem dX7_distance_29 : decode cX7_distance 29 = .ok (.aload_n 0, 1) := by decide +kernel
theorem dX7_distance_30 : decode cX7_distance 30 = .ok (.iload_n 1, 1) := by decide +kernel
theorem dX7_distance_31 : decode cX7_distance 31 = .ok (.invokevirtual 134, 3) := by decide +kernel
theorem dX7_distance_34 : decode cX7_distance 34 = .ok (.aload_n 0, 1) := by decide +kernel
theorem dX7_distance_35 : decode cX7_distance 35 = .ok (.aload_n 0, 1) := by decide +kernel
theorem dX7_distance_36 : decode cX7_distance 36 = .ok (.getfield 25, 3) := by decide +kernel
theorem dX7_distance_39 : decode cX7_distance 39 = .ok (.iload_n 2, 1) := by decide +kernel
theorem dX7_distance_40 : decode cX7_distance 40 = .ok (.iaload, 1) := by decide +kernel
theorem dX7_distance_41 : decode cX7_distance 41 = .ok (.sipush 9999, 3) := by decide +kernel
theorem dX7_distance_44 : decode cX7_distance 44 = .ok (.if_icmp .lt 7, 3) := by decide +kernel
theorem dX7_distance_47 : decode cX7_distance 47 = .ok (.iconst 1, 1) := by decide +kernel
theorem dX7_distance_48 : decode cX7_distance 48 = .ok (.goto 4, 3) := by decide +kernel
theorem dX7_distance_51 : decode cX7_distance 51 = .ok (.iconst 0, 1) := by decide +kernel
theorem dX7_distance_52 : decode cX7_distance 52 = .ok (.iconst 2, 1) := by decide +kernel
theorem dX7_distance_53 : decode cX7_distance 53 = .ok (.invokevirtual 79, 3) := by decide +kernel
theorem dX7_distance_56 : decode cX7_distance 56 = .ok (.ifCond .eq 7, 3) := by decide +kernel
theorem dX7_distance_59 : decode cX7_distance 59 = .ok (.iconst 0, 1) := by decide +kernel
theorem dX7_distance_60 : decode cX7_distance 60 = .ok (.goto 9, 3) := by decide +kernel
theorem dX7_distance_63 : decode cX7_distance 63 = .ok (.aload_n 0, 1) := by decide +kernel
theorem dX7_distance_64 : decode cX7_distance 64 = .ok (.getfield 25, 3) := by decide +kernel
theorem dX7_distance_67 : decode cX7_distance 67 = .ok (.iload_n 2, 1) := by decide +kernel
theorem dX7_distance_68 : decode cX7_distance 68 = .ok (.iaload, 1) := by decide +kernel
theorem dX7_distance_69 : decode cX7_distance 69 = .ok (.ireturn, 1) := by decide +kernel
theorem dX7_distanceByJunctions_0 : decode cX7_distanceByJunctions 0 = .ok (.aload_n 0, 1) := by decide +kernel
theorem dX7_distanceByJunctions_1 : decode cX7_distanceByJunctions 1 = .ok (.iload_n 1, 1) := by decide +kernel
theorem dX7_distanceByJunctions_2 : decode cX7_distanceByJunctions 2 = .ok (.iload_n 2, 1) := by decide +kernel
theorem dX7_distanceByJunctions_3 : decode cX7_distanceByJunctions 3 = .ok (.invokevirtual 171, 3) := by decide +kernel
theorem dX7_distanceByJunctions_6 : decode cX7_distanceByJunctions 6 = .ok (.ireturn, 1) := by decide +kernel
theorem dX7_isAhead_0 : decode cX7_isAhead 0 = .ok (.aload_n 0, 1) := by decide +kernel
