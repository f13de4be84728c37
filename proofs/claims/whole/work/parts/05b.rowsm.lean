theorem dX7_isAhead_1 : decode cX7_isAhead 1 = .ok (.iload_n 1, 1) := by decide +kernel
theorem dX7_isAhead_2 : decode cX7_isAhead 2 = .ok (.iconst 4, 1) := by decide +kernel
theorem dX7_isAhead_3 : decode cX7_isAhead 3 = .ok (.invokevirtual 61, 3) := by decide +kernel
theorem dX7_isAhead_6 : decode cX7_isAhead 6 = .ok (.aload_n 0, 1) := by decide +kernel
theorem dX7_isAhead_7 : decode cX7_isAhead 7 = .ok (.iload_n 1, 1) := by decide +kernel
theorem dX7_isAhead_8 : decode cX7_isAhead 8 = .ok (.invokevirtual 65, 3) := by decide +kernel
theorem dX7_isAhead_11 : decode cX7_isAhead 11 = .ok (.isub, 1) := by decide +kernel
theorem dX7_isAhead_12 : decode cX7_isAhead 12 = .ok (.aload_n 0, 1) := by decide +kernel
theorem dX7_isAhead_13 : decode cX7_isAhead 13 = .ok (.iload_n 2, 1) := by decide +kernel
theorem dX7_isAhead_14 : decode cX7_isAhead 14 = .ok (.iconst 4, 1) := by decide +kernel
theorem dX7_isAhead_15 : decode cX7_isAhead 15 = .ok (.invokevirtual 61, 3) := by decide +kernel
theorem dX7_isAhead_18 : decode cX7_isAhead 18 = .ok (.isub, 1) := by decide +kernel
theorem dX7_isAhead_19 : decode cX7_isAhead 19 = .ok (.aload_n 0, 1) := by decide +kernel
theorem dX7_isAhead_20 : decode cX7_isAhead 20 = .ok (.iload_n 2, 1) := by decide +kernel
theorem dX7_isAhead_21 : decode cX7_isAhead 21 = .ok (.invokevirtual 65, 3) := by decide +kernel
theorem dX7_isAhead_24 : decode cX7_isAhead 24 = .ok (.iadd, 1) := by decide +kernel
theorem dX7_isAhead_25 : decode cX7_isAhead 25 = .ok (.istore_n 3, 1) := by decide +kernel
theorem dX7_isAhead_26 : decode cX7_isAhead 26 = .ok (.iload_n 3, 1) := by decide +kernel
theorem dX7_isAhead_27 : decode cX7_isAhead 27 = .ok (.ifCond .eq 13, 3) := by decide +kernel
theorem dX7_isAhead_30 : decode cX7_isAhead 30 = .ok (.iload_n 3, 1) := by decide +kernel
theorem dX7_isAhead_31 : decode cX7_isAhead 31 = .ok (.ifCond .le 7, 3) := by decide +kernel
theorem dX7_isAhead_34 : decode cX7_isAhead 34 = .ok (.iconst 1, 1) := by decide +kernel
theorem dX7_isAhead_35 : decode cX7_isAhead 35 = .ok (.goto 4, 3) := by decide +kernel
theorem dX7_isAhead_38 : decode cX7_isAhead 38 = .ok (.iconst 0, 1) := by decide +kernel
theorem dX7_isAhead_39 : decode cX7_isAhead 39 = .ok (.ireturn, 1) := by decide +kernel
theorem dX7_isAhead_40 : decode cX7_isAhead 40 = .ok (.aload_n 0, 1) := by decide +kernel
theorem dX7_isAhead_41 : decode cX7_isAhead 41 = .ok (.iload_n 2, 1) := by decide +kernel
theorem dX7_isAhead_42 : decode cX7_isAhead 42 = .ok (.iconst 2, 1) := by decide +kernel
theorem dX7_isAhead_43 : decode cX7_isAhead 43 = .ok (.invokevirtual 61, 3) := by decide +kernel
theorem dX7_isAhead_46 : decode cX7_isAhead 46 = .ok (.aload_n 0, 1) := by decide +kernel
theorem dX7_isAhead_47 : decode cX7_isAhead 47 = .ok (.iload_n 1, 1) := by decide +kernel
theorem dX7_isAhead_48 : decode cX7_isAhead 48 = .ok (.iconst 2, 1) := by decide +kernel
theorem dX7_isAhead_49 : decode cX7_isAhead 49 = .ok (.invokevirtual 61, 3) := by decide +kernel
theorem dX7_isAhead_52 : decode cX7_isAhead 52 = .ok (.isub, 1) := by decide +kernel
theorem dX7_isAhead_53 : decode cX7_isAhead 53 = .ok (.istore 4, 2) := by decide +kernel
theorem dX7_isAhead_55 : decode cX7_isAhead 55 = .ok (.iload 4, 2) := by decide +kernel
theorem dX7_isAhead_57 : decode cX7_isAhead 57 = .ok (.ifCond .eq 16, 3) := by decide +kernel
theorem dX7_isAhead_60 : decode cX7_isAhead 60 = .ok (.iload 4, 2) := by decide +kernel
theorem dX7_isAhead_62 : decode cX7_isAhead 62 = .ok (.ifCond .le 7, 3) := by decide +kernel
theorem dX7_isAhead_65 : decode cX7_isAhead 65 = .ok (.iconst 1, 1) := by decide +kernel
theorem dX7_isAhead_66 : decode cX7_isAhead 66 = .ok (.goto 17, 3) := by decide +kernel
theorem dX7_isAhead_69 : decode cX7_isAhead 69 = .ok (.iconst 0, 1) := by decide +kernel
theorem dX7_isAhead_70 : decode cX7_isAhead 70 = .ok (.goto 13, 3) := by decide +kernel
theorem dX7_isAhead_73 : decode cX7_isAhead 73 = .ok (.iload_n 1, 1) := by decide +kernel
theorem dX7_isAhead_74 : decode cX7_isAhead 74 = .ok (.iload_n 2, 1) := by decide +kernel
theorem dX7_isAhead_75 : decode cX7_isAhead 75 = .ok (.if_icmp .ge 7, 3) := by decide +kernel
theorem dX7_isAhead_78 : decode cX7_isAhead 78 = .ok (.iconst 1, 1) := by decide +kernel
theorem dX7_isAhead_79 : decode cX7_isAhead 79 = .ok (.goto 4, 3) := by decide +kernel
theorem dX7_isAhead_82 : decode cX7_isAhead 82 = .ok (.iconst 0, 1) := by decide +kernel
theorem dX7_isAhead_83 : decode cX7_isAhead 83 = .ok (.ireturn, 1) := by decide +kernel
theorem dX7_streetByUrgency_0 : decode cX7_streetByUrgency 0 = .ok (.iconst 0, 1) := by decide +kernel
theorem dX7_streetByUrgency_1 : decode cX7_streetByUrgency 1 = .ok (.istore_n 2, 1) := by decide +kernel
theorem dX7_streetByUrgency_2 : decode cX7_streetByUrgency 2 = .ok (.iload_n 2, 1) := by decide +kernel
theorem dX7_streetByUrgency_3 : decode cX7_streetByUrgency 3 = .ok (.aload_n 0, 1) := by decide +kernel
theorem dX7_streetByUrgency_4 : decode cX7_streetByUrgency 4 = .ok (.getfield 9, 3) := by decide +kernel
theorem dX7_streetByUrgency_7 : decode cX7_streetByUrgency 7 = .ok (.iconst 1, 1) := by decide +kernel
theorem dX7_streetByUrgency_8 : decode cX7_streetByUrgency 8 = .ok (.iaload, 1) := by decide +kernel
theorem dX7_streetByUrgency_9 : decode cX7_streetByUrgency 9 = .ok (.if_icmp .ge 67, 3) := by decide +kernel
theorem dX7_streetByUrgency_12 : decode cX7_streetByUrgency 12 = .ok (.iconst 0, 1) := by decide +kernel
theorem dX7_streetByUrgency_13 : decode cX7_streetByUrgency 13 = .ok (.istore_n 3, 1) := by decide +kernel
theorem dX7_streetByUrgency_14 : decode cX7_streetByUrgency 14 = .ok (.iconst 0, 1) := by decide +kernel
theorem dX7_streetByUrgency_15 : decode cX7_streetByUrgency 15 = .ok (.istore 4, 2) := by decide +kernel
theorem dX7_streetByUrgency_17 : decode cX7_streetByUrgency 17 = .ok (.iload 4, 2) := by decide +kernel
theorem dX7_streetByUrgency_19 : decode cX7_streetByUrgency 19 = .ok (.aload_n 0, 1) := by decide +kernel
theorem dX7_streetByUrgency_20 : decode cX7_streetByUrgency 20 = .ok (.getfield 9, 3) := by decide +kernel
theorem dX7_streetByUrgency_23 : decode cX7_streetByUrgency 23 = .ok (.iconst 1, 1) := by decide +kernel
theorem dX7_streetByUrgency_24 : decode cX7_streetByUrgency 24 = .ok (.iaload, 1) := by decide +kernel
theorem dX7_streetByUrgency_25 : decode cX7_streetByUrgency 25 = .ok (.if_icmp .ge 33, 3) := by decide +kernel
theorem dX7_streetByUrgency_28 : decode cX7_streetByUrgency 28 = .ok (.iload_n 3, 1) := by decide +kernel
theorem dX7_streetByUrgency_29 : decode cX7_streetByUrgency 29 = .ok (.iload 4, 2) := by decide +kernel
theorem dX7_streetByUrgency_31 : decode cX7_streetByUrgency 31 = .ok (.iload_n 2, 1) := by decide +kernel
theorem dX7_streetByUrgency_32 : decode cX7_streetByUrgency 32 = .ok (.if_icmp .eq 17, 3) := by decide +kernel
theorem dX7_streetByUrgency_35 : decode cX7_streetByUrgency 35 = .ok (.aload_n 0, 1) := by decide +kernel
theorem dX7_streetByUrgency_36 : decode cX7_streetByUrgency 36 = .ok (.iload 4, 2) := by decide +kernel
theorem dX7_streetByUrgency_38 : decode cX7_streetByUrgency 38 = .ok (.iload_n 2, 1) := by decide +kernel
theorem dX7_streetByUrgency_39 : decode cX7_streetByUrgency 39 = .ok (.invokevirtual 174, 3) := by decide +kernel
theorem dX7_streetByUrgency_42 : decode cX7_streetByUrgency 42 = .ok (.ifCond .eq 7, 3) := by decide +kernel
theorem dX7_streetByUrgency_45 : decode cX7_streetByUrgency 45 = .ok (.iconst 1, 1) := by decide +kernel
theorem dX7_streetByUrgency_46 : decode cX7_streetByUrgency 46 = .ok (.goto 4, 3) := by decide +kernel
theorem dX7_streetByUrgency_49 : decode cX7_streetByUrgency 49 = .ok (.iconst 0, 1) := by decide +kernel
theorem dX7_streetByUrgency_50 : decode cX7_streetByUrgency 50 = .ok (.iadd, 1) := by decide +kernel
theorem dX7_streetByUrgency_51 : decode cX7_streetByUrgency 51 = .ok (.istore_n 3, 1) := by decide +kernel
theorem dX7_streetByUrgency_52 : decode cX7_streetByUrgency 52 = .ok (.iinc 4 1, 3) := by decide +kernel
theorem dX7_streetByUrgency_55 : decode cX7_streetByUrgency 55 = .ok (.goto (-38), 3) := by decide +kernel
theorem dX7_streetByUrgency_58 : decode cX7_streetByUrgency 58 = .ok (.iload_n 3, 1) := by decide +kernel
theorem dX7_streetByUrgency_59 : decode cX7_streetByUrgency 59 = .ok (.iload_n 1, 1) := by decide +kernel
theorem dX7_streetByUrgency_60 : decode cX7_streetByUrgency 60 = .ok (.if_icmp .ne 10, 3) := by decide +kernel
theorem dX7_streetByUrgency_63 : decode cX7_streetByUrgency 63 = .ok (.aload_n 0, 1) := by decide +kernel
theorem dX7_streetByUrgency_64 : decode cX7_streetByUrgency 64 = .ok (.iconst 0, 1) := by decide +kernel
theorem dX7_streetByUrgency_65 : decode cX7_streetByUrgency 65 = .ok (.putfield 47, 3) := by decide +kernel
theorem dX7_streetByUrgency_68 : decode cX7_streetByUrgency 68 = .ok (.iload_n 2, 1) := by decide +kernel
theorem dX7_streetByUrgency_69 : decode cX7_streetByUrgency 69 = .ok (.ireturn, 1) := by decide +kernel
theorem dX7_streetByUrgency_70 : decode cX7_streetByUrgency 70 = .ok (.iinc 2 1, 3) := by decide +kernel
theorem dX7_streetByUrgency_73 : decode cX7_streetByUrgency 73 = .ok (.goto (-71), 3) := by decide +kernel
theorem dX7_streetByUrgency_76 : decode cX7_streetByUrgency 76 = .ok (.aload_n 0, 1) := by decide +kernel
theorem dX7_streetByUrgency_77 : decode cX7_streetByUrgency 77 = .ok (.iconst 1, 1) := by decide +kernel
theorem dX7_streetByUrgency_78 : decode cX7_streetByUrgency 78 = .ok (.putfield 47, 3) := by decide +kernel
theorem dX7_streetByUrgency_81 : decode cX7_streetByUrgency 81 = .ok (.iconst 0, 1) := by decide +kernel
theorem dX7_streetByUrgency_82 : decode cX7_streetByUrgency 82 = .ok (.ireturn, 1) := by decide +kernel
theorem dX7_ploughCount_0 : decode cX7_ploughCount 0 = .ok (.aload_n 0, 1) := by decide +kernel
theorem dX7_ploughCount_1 : decode cX7_ploughCount 1 = .ok (.iconst 0, 1) := by decide +kernel
theorem dX7_ploughCount_2 : decode cX7_ploughCount 2 = .ok (.putfield 47, 3) := by decide +kernel
theorem dX7_ploughCount_5 : decode cX7_ploughCount 5 = .ok (.aload_n 0, 1) := by decide +kernel
theorem dX7_ploughCount_6 : decode cX7_ploughCount 6 = .ok (.getfield 9, 3) := by decide +kernel
theorem dX7_ploughCount_9 : decode cX7_ploughCount 9 = .ok (.iconst 2, 1) := by decide +kernel
theorem dX7_ploughCount_10 : decode cX7_ploughCount 10 = .ok (.iaload, 1) := by decide +kernel
theorem dX7_ploughCount_11 : decode cX7_ploughCount 11 = .ok (.ireturn, 1) := by decide +kernel
theorem dX7_tellsPlough_0 : decode cX7_tellsPlough 0 = .ok (.aload_n 0, 1) := by decide +kernel
theorem dX7_tellsPlough_1 : decode cX7_tellsPlough 1 = .ok (.aload_n 0, 1) := by decide +kernel
theorem dX7_tellsPlough_2 : decode cX7_tellsPlough 2 = .ok (.iload_n 1, 1) := by decide +kernel
theorem dX7_tellsPlough_3 : decode cX7_tellsPlough 3 = .ok (.invokevirtual 107, 3) := by decide +kernel
theorem dX7_tellsPlough_6 : decode cX7_tellsPlough 6 = .ok (.ifCond .ne 7, 3) := by decide +kernel
theorem dX7_tellsPlough_9 : decode cX7_tellsPlough 9 = .ok (.iconst 1, 1) := by decide +kernel
theorem dX7_tellsPlough_10 : decode cX7_tellsPlough 10 = .ok (.goto 4, 3) := by decide +kernel
theorem dX7_tellsPlough_13 : decode cX7_tellsPlough 13 = .ok (.iconst 0, 1) := by decide +kernel
theorem dX7_tellsPlough_14 : decode cX7_tellsPlough 14 = .ok (.iconst 1, 1) := by decide +kernel
theorem dX7_tellsPlough_15 : decode cX7_tellsPlough 15 = .ok (.invokevirtual 79, 3) := by decide +kernel
theorem dX7_tellsPlough_18 : decode cX7_tellsPlough 18 = .ok (.ifCond .eq 7, 3) := by decide +kernel
theorem dX7_tellsPlough_21 : decode cX7_tellsPlough 21 = .ok (.iconst 0, 1) := by decide +kernel
theorem dX7_tellsPlough_22 : decode cX7_tellsPlough 22 = .ok (.goto 9, 3) := by decide +kernel
theorem dX7_tellsPlough_25 : decode cX7_tellsPlough 25 = .ok (.aload_n 0, 1) := by decide +kernel
theorem dX7_tellsPlough_26 : decode cX7_tellsPlough 26 = .ok (.iload_n 1, 1) := by decide +kernel
theorem dX7_tellsPlough_27 : decode cX7_tellsPlough 27 = .ok (.iload_n 2, 1) := by decide +kernel
theorem dX7_tellsPlough_28 : decode cX7_tellsPlough 28 = .ok (.invokevirtual 113, 3) := by decide +kernel
theorem dX7_tellsPlough_31 : decode cX7_tellsPlough 31 = .ok (.ireturn, 1) := by decide +kernel
theorem dX7_isBusy_0 : decode cX7_isBusy 0 = .ok (.aload_n 0, 1) := by decide +kernel
theorem dX7_isBusy_1 : decode cX7_isBusy 1 = .ok (.iload_n 1, 1) := by decide +kernel
theorem dX7_isBusy_2 : decode cX7_isBusy 2 = .ok (.iconst 1, 1) := by decide +kernel
theorem dX7_isBusy_3 : decode cX7_isBusy 3 = .ok (.invokevirtual 177, 3) := by decide +kernel
theorem dX7_isBusy_6 : decode cX7_isBusy 6 = .ok (.ifCond .le 7, 3) := by decide +kernel
theorem dX7_isBusy_9 : decode cX7_isBusy 9 = .ok (.iconst 1, 1) := by decide +kernel
theorem dX7_isBusy_10 : decode cX7_isBusy 10 = .ok (.goto 4, 3) := by decide +kernel
theorem dX7_isBusy_13 : decode cX7_isBusy 13 = .ok (.iconst 0, 1) := by decide +kernel
theorem dX7_isBusy_14 : decode cX7_isBusy 14 = .ok (.ireturn, 1) := by decide +kernel
theorem dX7_junction_0 : decode cX7_junction 0 = .ok (.aload_n 0, 1) := by decide +kernel
theorem dX7_junction_1 : decode cX7_junction 1 = .ok (.iload_n 1, 1) := by decide +kernel
theorem dX7_junction_2 : decode cX7_junction 2 = .ok (.iconst 0, 1) := by decide +kernel
theorem dX7_junction_3 : decode cX7_junction 3 = .ok (.invokevirtual 177, 3) := by decide +kernel
theorem dX7_junction_6 : decode cX7_junction 6 = .ok (.ireturn, 1) := by decide +kernel
theorem dX7_currentStreet_0 : decode cX7_currentStreet 0 = .ok (.aload_n 0, 1) := by decide +kernel
theorem dX7_currentStreet_1 : decode cX7_currentStreet 1 = .ok (.aload_n 0, 1) := by decide +kernel
theorem dX7_currentStreet_2 : decode cX7_currentStreet 2 = .ok (.iload_n 1, 1) := by decide +kernel
theorem dX7_currentStreet_3 : decode cX7_currentStreet 3 = .ok (.invokevirtual 107, 3) := by decide +kernel
theorem dX7_currentStreet_6 : decode cX7_currentStreet 6 = .ok (.ifCond .ne 7, 3) := by decide +kernel
theorem dX7_currentStreet_9 : decode cX7_currentStreet 9 = .ok (.iconst 1, 1) := by decide +kernel
theorem dX7_currentStreet_10 : decode cX7_currentStreet 10 = .ok (.goto 4, 3) := by decide +kernel
theorem dX7_currentStreet_13 : decode cX7_currentStreet 13 = .ok (.iconst 0, 1) := by decide +kernel
theorem dX7_currentStreet_14 : decode cX7_currentStreet 14 = .ok (.iconst 1, 1) := by decide +kernel
theorem dX7_currentStreet_15 : decode cX7_currentStreet 15 = .ok (.invokevirtual 79, 3) := by decide +kernel
theorem dX7_currentStreet_18 : decode cX7_currentStreet 18 = .ok (.ifCond .ne 25, 3) := by decide +kernel
theorem dX7_currentStreet_21 : decode cX7_currentStreet 21 = .ok (.aload_n 0, 1) := by decide +kernel
theorem dX7_currentStreet_22 : decode cX7_currentStreet 22 = .ok (.aload_n 0, 1) := by decide +kernel
theorem dX7_currentStreet_23 : decode cX7_currentStreet 23 = .ok (.iload_n 1, 1) := by decide +kernel
theorem dX7_currentStreet_24 : decode cX7_currentStreet 24 = .ok (.iconst 1, 1) := by decide +kernel
theorem dX7_currentStreet_25 : decode cX7_currentStreet 25 = .ok (.invokevirtual 113, 3) := by decide +kernel
theorem dX7_currentStreet_28 : decode cX7_currentStreet 28 = .ok (.ifCond .ne 7, 3) := by decide +kernel
theorem dX7_currentStreet_31 : decode cX7_currentStreet 31 = .ok (.iconst 1, 1) := by decide +kernel
theorem dX7_currentStreet_32 : decode cX7_currentStreet 32 = .ok (.goto 4, 3) := by decide +kernel
theorem dX7_currentStreet_35 : decode cX7_currentStreet 35 = .ok (.iconst 0, 1) := by decide +kernel
theorem dX7_currentStreet_36 : decode cX7_currentStreet 36 = .ok (.iconst 2, 1) := by decide +kernel
theorem dX7_currentStreet_37 : decode cX7_currentStreet 37 = .ok (.invokevirtual 79, 3) := by decide +kernel
theorem dX7_currentStreet_40 : decode cX7_currentStreet 40 = .ok (.ifCond .eq 7, 3) := by decide +kernel
theorem dX7_currentStreet_43 : decode cX7_currentStreet 43 = .ok (.iconst 0, 1) := by decide +kernel
theorem dX7_currentStreet_44 : decode cX7_currentStreet 44 = .ok (.goto 9, 3) := by decide +kernel
theorem dX7_currentStreet_47 : decode cX7_currentStreet 47 = .ok (.aload_n 0, 1) := by decide +kernel
theorem dX7_currentStreet_48 : decode cX7_currentStreet 48 = .ok (.iload_n 1, 1) := by decide +kernel
theorem dX7_currentStreet_49 : decode cX7_currentStreet 49 = .ok (.iconst 2, 1) := by decide +kernel
theorem dX7_currentStreet_50 : decode cX7_currentStreet 50 = .ok (.invokevirtual 113, 3) := by decide +kernel
theorem dX7_currentStreet_53 : decode cX7_currentStreet 53 = .ok (.ireturn, 1) := by decide +kernel
theorem dX7_busyMinutes_0 : decode cX7_busyMinutes 0 = .ok (.aload_n 0, 1) := by decide +kernel
theorem dX7_busyMinutes_1 : decode cX7_busyMinutes 1 = .ok (.iload_n 1, 1) := by decide +kernel
theorem dX7_busyMinutes_2 : decode cX7_busyMinutes 2 = .ok (.iconst 1, 1) := by decide +kernel
theorem dX7_busyMinutes_3 : decode cX7_busyMinutes 3 = .ok (.invokevirtual 177, 3) := by decide +kernel
theorem dX7_busyMinutes_6 : decode cX7_busyMinutes 6 = .ok (.ireturn, 1) := by decide +kernel
theorem dX7_queueLength_0 : decode cX7_queueLength 0 = .ok (.aload_n 0, 1) := by decide +kernel
theorem dX7_queueLength_1 : decode cX7_queueLength 1 = .ok (.iload_n 1, 1) := by decide +kernel
theorem dX7_queueLength_2 : decode cX7_queueLength 2 = .ok (.iconst 3, 1) := by decide +kernel
theorem dX7_queueLength_3 : decode cX7_queueLength 3 = .ok (.invokevirtual 177, 3) := by decide +kernel
theorem dX7_queueLength_6 : decode cX7_queueLength 6 = .ok (.ireturn, 1) := by decide +kernel
theorem dX7_queuedStreet_0 : decode cX7_queuedStreet 0 = .ok (.aload_n 0, 1) := by decide +kernel
theorem dX7_queuedStreet_1 : decode cX7_queuedStreet 1 = .ok (.aload_n 0, 1) := by decide +kernel
theorem dX7_queuedStreet_2 : decode cX7_queuedStreet 2 = .ok (.iload_n 1, 1) := by decide +kernel
theorem dX7_queuedStreet_3 : decode cX7_queuedStreet 3 = .ok (.invokevirtual 107, 3) := by decide +kernel
theorem dX7_queuedStreet_6 : decode cX7_queuedStreet 6 = .ok (.ifCond .ne 7, 3) := by decide +kernel
theorem dX7_queuedStreet_9 : decode cX7_queuedStreet 9 = .ok (.iconst 1, 1) := by decide +kernel
theorem dX7_queuedStreet_10 : decode cX7_queuedStreet 10 = .ok (.goto 4, 3) := by decide +kernel
theorem dX7_queuedStreet_13 : decode cX7_queuedStreet 13 = .ok (.iconst 0, 1) := by decide +kernel
theorem dX7_queuedStreet_14 : decode cX7_queuedStreet 14 = .ok (.iconst 1, 1) := by decide +kernel
theorem dX7_queuedStreet_15 : decode cX7_queuedStreet 15 = .ok (.invokevirtual 79, 3) := by decide +kernel
theorem dX7_queuedStreet_18 : decode cX7_queuedStreet 18 = .ok (.ifCond .ne 32, 3) := by decide +kernel
theorem dX7_queuedStreet_21 : decode cX7_queuedStreet 21 = .ok (.aload_n 0, 1) := by decide +kernel
theorem dX7_queuedStreet_22 : decode cX7_queuedStreet 22 = .ok (.iload_n 2, 1) := by decide +kernel
theorem dX7_queuedStreet_23 : decode cX7_queuedStreet 23 = .ok (.iconst 0, 1) := by decide +kernel
theorem dX7_queuedStreet_24 : decode cX7_queuedStreet 24 = .ok (.aload_n 0, 1) := by decide +kernel
theorem dX7_queuedStreet_25 : decode cX7_queuedStreet 25 = .ok (.iload_n 1, 1) := by decide +kernel
theorem dX7_queuedStreet_26 : decode cX7_queuedStreet 26 = .ok (.iconst 3, 1) := by decide +kernel
theorem dX7_queuedStreet_27 : decode cX7_queuedStreet 27 = .ok (.invokevirtual 113, 3) := by decide +kernel
theorem dX7_queuedStreet_30 : decode cX7_queuedStreet 30 = .ok (.iconst 1, 1) := by decide +kernel
theorem dX7_queuedStreet_31 : decode cX7_queuedStreet 31 = .ok (.isub, 1) := by decide +kernel
theorem dX7_queuedStreet_32 : decode cX7_queuedStreet 32 = .ok (.invokestatic 57, 3) := by decide +kernel
theorem dX7_queuedStreet_35 : decode cX7_queuedStreet 35 = .ok (.ifCond .ne 7, 3) := by decide +kernel
theorem dX7_queuedStreet_38 : decode cX7_queuedStreet 38 = .ok (.iconst 1, 1) := by decide +kernel
theorem dX7_queuedStreet_39 : decode cX7_queuedStreet 39 = .ok (.goto 4, 3) := by decide +kernel
theorem dX7_queuedStreet_42 : decode cX7_queuedStreet 42 = .ok (.iconst 0, 1) := by decide +kernel
theorem dX7_queuedStreet_43 : decode cX7_queuedStreet 43 = .ok (.iconst 2, 1) := by decide +kernel
theorem dX7_queuedStreet_44 : decode cX7_queuedStreet 44 = .ok (.invokevirtual 79, 3) := by decide +kernel
theorem dX7_queuedStreet_47 : decode cX7_queuedStreet 47 = .ok (.ifCond .eq 7, 3) := by decide +kernel
theorem dX7_queuedStreet_50 : decode cX7_queuedStreet 50 = .ok (.iconst 0, 1) := by decide +kernel
theorem dX7_queuedStreet_51 : decode cX7_queuedStreet 51 = .ok (.goto 11, 3) := by decide +kernel
theorem dX7_queuedStreet_54 : decode cX7_queuedStreet 54 = .ok (.aload_n 0, 1) := by decide +kernel
theorem dX7_queuedStreet_55 : decode cX7_queuedStreet 55 = .ok (.iload_n 1, 1) := by decide +kernel
theorem dX7_queuedStreet_56 : decode cX7_queuedStreet 56 = .ok (.iconst 4, 1) := by decide +kernel
theorem dX7_queuedStreet_57 : decode cX7_queuedStreet 57 = .ok (.iload_n 2, 1) := by decide +kernel
theorem dX7_queuedStreet_58 : decode cX7_queuedStreet 58 = .ok (.iadd, 1) := by decide +kernel
theorem dX7_queuedStreet_59 : decode cX7_queuedStreet 59 = .ok (.invokevirtual 113, 3) := by decide +kernel
theorem dX7_queuedStreet_62 : decode cX7_queuedStreet 62 = .ok (.ireturn, 1) := by decide +kernel
theorem dX7_orderMinutes_0 : decode cX7_orderMinutes 0 = .ok (.aload_n 0, 1) := by decide +kernel
theorem dX7_orderMinutes_1 : decode cX7_orderMinutes 1 = .ok (.aload_n 0, 1) := by decide +kernel
theorem dX7_orderMinutes_2 : decode cX7_orderMinutes 2 = .ok (.iload_n 1, 1) := by decide +kernel
theorem dX7_orderMinutes_3 : decode cX7_orderMinutes 3 = .ok (.invokevirtual 107, 3) := by decide +kernel
theorem dX7_orderMinutes_6 : decode cX7_orderMinutes 6 = .ok (.ifCond .eq 11, 3) := by decide +kernel
theorem dX7_orderMinutes_9 : decode cX7_orderMinutes 9 = .ok (.aload_n 0, 1) := by decide +kernel
theorem dX7_orderMinutes_10 : decode cX7_orderMinutes 10 = .ok (.iload_n 2, 1) := by decide +kernel
theorem dX7_orderMinutes_11 : decode cX7_orderMinutes 11 = .ok (.invokevirtual 110, 3) := by decide +kernel
theorem dX7_orderMinutes_14 : decode cX7_orderMinutes 14 = .ok (.ifCond .ne 7, 3) := by decide +kernel
theorem dX7_orderMinutes_17 : decode cX7_orderMinutes 17 = .ok (.iconst 1, 1) := by decide +kernel
theorem dX7_orderMinutes_18 : decode cX7_orderMinutes 18 = .ok (.goto 4, 3) := by decide +kernel
theorem dX7_orderMinutes_21 : decode cX7_orderMinutes 21 = .ok (.iconst 0, 1) := by decide +kernel
theorem dX7_orderMinutes_22 : decode cX7_orderMinutes 22 = .ok (.iconst 1, 1) := by decide +kernel
theorem dX7_orderMinutes_23 : decode cX7_orderMinutes 23 = .ok (.invokevirtual 79, 3) := by decide +kernel
theorem dX7_orderMinutes_26 : decode cX7_orderMinutes 26 = .ok (.ifCond .eq 5, 3) := by decide +kernel
theorem dX7_orderMinutes_29 : decode cX7_orderMinutes 29 = .ok (.iconst 0, 1) := by decide +kernel
theorem dX7_orderMinutes_30 : decode cX7_orderMinutes 30 = .ok (.ireturn, 1) := by decide +kernel
theorem dX7_orderMinutes_31 : decode cX7_orderMinutes 31 = .ok (.aload_n 0, 1) := by decide +kernel
theorem dX7_orderMinutes_32 : decode cX7_orderMinutes 32 = .ok (.aload_n 0, 1) := by decide +kernel
theorem dX7_orderMinutes_33 : decode cX7_orderMinutes 33 = .ok (.iload_n 1, 1) := by decide +kernel
theorem dX7_orderMinutes_34 : decode cX7_orderMinutes 34 = .ok (.iconst 0, 1) := by decide +kernel
theorem dX7_orderMinutes_35 : decode cX7_orderMinutes 35 = .ok (.invokevirtual 113, 3) := by decide +kernel
theorem dX7_orderMinutes_38 : decode cX7_orderMinutes 38 = .ok (.iload_n 2, 1) := by decide +kernel
theorem dX7_orderMinutes_39 : decode cX7_orderMinutes 39 = .ok (.invokevirtual 138, 3) := by decide +kernel
theorem dX7_orderMinutes_42 : decode cX7_orderMinutes 42 = .ok (.istore_n 3, 1) := by decide +kernel
theorem dX7_orderMinutes_43 : decode cX7_orderMinutes 43 = .ok (.aload_n 0, 1) := by decide +kernel
theorem dX7_orderMinutes_44 : decode cX7_orderMinutes 44 = .ok (.iload_n 3, 1) := by decide +kernel
theorem dX7_orderMinutes_45 : decode cX7_orderMinutes 45 = .ok (.ifCond .ge 7, 3) := by decide +kernel
theorem dX7_orderMinutes_48 : decode cX7_orderMinutes 48 = .ok (.iconst 1, 1) := by decide +kernel
theorem dX7_orderMinutes_49 : decode cX7_orderMinutes 49 = .ok (.goto 4, 3) := by decide +kernel
theorem dX7_orderMinutes_52 : decode cX7_orderMinutes 52 = .ok (.iconst 0, 1) := by decide +kernel
theorem dX7_orderMinutes_53 : decode cX7_orderMinutes 53 = .ok (.iconst 2, 1) := by decide +kernel
theorem dX7_orderMinutes_54 : decode cX7_orderMinutes 54 = .ok (.invokevirtual 79, 3) := by decide +kernel
theorem dX7_orderMinutes_57 : decode cX7_orderMinutes 57 = .ok (.ifCond .eq 7, 3) := by decide +kernel
theorem dX7_orderMinutes_60 : decode cX7_orderMinutes 60 = .ok (.iconst 0, 1) := by decide +kernel
theorem dX7_orderMinutes_61 : decode cX7_orderMinutes 61 = .ok (.goto 4, 3) := by decide +kernel
theorem dX7_orderMinutes_64 : decode cX7_orderMinutes 64 = .ok (.iload_n 3, 1) := by decide +kernel
theorem dX7_orderMinutes_65 : decode cX7_orderMinutes 65 = .ok (.ireturn, 1) := by decide +kernel
theorem dX7_minutesUntilCleared_0 : decode cX7_minutesUntilCleared 0 = .ok (.aload_n 0, 1) := by decide +kernel
theorem dX7_minutesUntilCleared_1 : decode cX7_minutesUntilCleared 1 = .ok (.aload_n 0, 1) := by decide +kernel
theorem dX7_minutesUntilCleared_2 : decode cX7_minutesUntilCleared 2 = .ok (.iload_n 1, 1) := by decide +kernel
theorem dX7_minutesUntilCleared_3 : decode cX7_minutesUntilCleared 3 = .ok (.invokevirtual 110, 3) := by decide +kernel
theorem dX7_minutesUntilCleared_6 : decode cX7_minutesUntilCleared 6 = .ok (.ifCond .ne 7, 3) := by decide +kernel
theorem dX7_minutesUntilCleared_9 : decode cX7_minutesUntilCleared 9 = .ok (.iconst 1, 1) := by decide +kernel
theorem dX7_minutesUntilCleared_10 : decode cX7_minutesUntilCleared 10 = .ok (.goto 4, 3) := by decide +kernel
theorem dX7_minutesUntilCleared_13 : decode cX7_minutesUntilCleared 13 = .ok (.iconst 0, 1) := by decide +kernel
theorem dX7_minutesUntilCleared_14 : decode cX7_minutesUntilCleared 14 = .ok (.iconst 1, 1) := by decide +kernel
theorem dX7_minutesUntilCleared_15 : decode cX7_minutesUntilCleared 15 = .ok (.invokevirtual 79, 3) := by decide +kernel
theorem dX7_minutesUntilCleared_18 : decode cX7_minutesUntilCleared 18 = .ok (.ifCond .eq 5, 3) := by decide +kernel
theorem dX7_minutesUntilCleared_21 : decode cX7_minutesUntilCleared 21 = .ok (.iconst 0, 1) := by decide +kernel
theorem dX7_minutesUntilCleared_22 : decode cX7_minutesUntilCleared 22 = .ok (.ireturn, 1) := by decide +kernel
theorem dX7_minutesUntilCleared_23 : decode cX7_minutesUntilCleared 23 = .ok (.aload_n 0, 1) := by decide +kernel
theorem dX7_minutesUntilCleared_24 : decode cX7_minutesUntilCleared 24 = .ok (.getfield 9, 3) := by decide +kernel
theorem dX7_minutesUntilCleared_27 : decode cX7_minutesUntilCleared 27 = .ok (.iconst 0, 1) := by decide +kernel
theorem dX7_minutesUntilCleared_28 : decode cX7_minutesUntilCleared 28 = .ok (.aload_n 0, 1) := by decide +kernel
theorem dX7_minutesUntilCleared_29 : decode cX7_minutesUntilCleared 29 = .ok (.getfield 16, 3) := by decide +kernel
theorem dX7_minutesUntilCleared_32 : decode cX7_minutesUntilCleared 32 = .ok (.iconst 0, 1) := by decide +kernel
theorem dX7_minutesUntilCleared_33 : decode cX7_minutesUntilCleared 33 = .ok (.invokestatic 50, 3) := by decide +kernel
theorem dX7_minutesUntilCleared_36 : decode cX7_minutesUntilCleared 36 = .ok (.iconst 1, 1) := by decide +kernel
theorem dX7_minutesUntilCleared_37 : decode cX7_minutesUntilCleared 37 = .ok (.istore_n 2, 1) := by decide +kernel
theorem dX7_minutesUntilCleared_38 : decode cX7_minutesUntilCleared 38 = .ok (.iload_n 2, 1) := by decide +kernel
theorem dX7_minutesUntilCleared_39 : decode cX7_minutesUntilCleared 39 = .ok (.sipush 600, 3) := by decide +kernel
theorem dX7_minutesUntilCleared_42 : decode cX7_minutesUntilCleared 42 = .ok (.if_icmp .gt 17, 3) := by decide +kernel
theorem dX7_minutesUntilCleared_45 : decode cX7_minutesUntilCleared 45 = .ok (.aload_n 0, 1) := by decide +kernel
theorem dX7_minutesUntilCleared_46 : decode cX7_minutesUntilCleared 46 = .ok (.iload_n 1, 1) := by decide +kernel
theorem dX7_minutesUntilCleared_47 : decode cX7_minutesUntilCleared 47 = .ok (.invokevirtual 159, 3) := by decide +kernel
theorem dX7_minutesUntilCleared_50 : decode cX7_minutesUntilCleared 50 = .ok (.ifCond .ne 9, 3) := by decide +kernel
theorem dX7_minutesUntilCleared_53 : decode cX7_minutesUntilCleared 53 = .ok (.iinc 2 1, 3) := by decide +kernel
theorem dX7_minutesUntilCleared_56 : decode cX7_minutesUntilCleared 56 = .ok (.goto (-18), 3) := by decide +kernel
theorem dX7_minutesUntilCleared_59 : decode cX7_minutesUntilCleared 59 = .ok (.aload_n 0, 1) := by decide +kernel
theorem dX7_minutesUntilCleared_60 : decode cX7_minutesUntilCleared 60 = .ok (.getfield 16, 3) := by decide +kernel
theorem dX7_minutesUntilCleared_63 : decode cX7_minutesUntilCleared 63 = .ok (.iconst 0, 1) := by decide +kernel
theorem dX7_minutesUntilCleared_64 : decode cX7_minutesUntilCleared 64 = .ok (.aload_n 0, 1) := by decide +kernel
theorem dX7_minutesUntilCleared_65 : decode cX7_minutesUntilCleared 65 = .ok (.getfield 9, 3) := by decide +kernel
theorem dX7_minutesUntilCleared_68 : decode cX7_minutesUntilCleared 68 = .ok (.iconst 0, 1) := by decide +kernel
theorem dX7_minutesUntilCleared_69 : decode cX7_minutesUntilCleared 69 = .ok (.invokestatic 50, 3) := by decide +kernel
theorem dX7_minutesUntilCleared_72 : decode cX7_minutesUntilCleared 72 = .ok (.aload_n 0, 1) := by decide +kernel
theorem dX7_minutesUntilCleared_73 : decode cX7_minutesUntilCleared 73 = .ok (.iload_n 2, 1) := by decide +kernel
theorem dX7_minutesUntilCleared_74 : decode cX7_minutesUntilCleared 74 = .ok (.sipush 600, 3) := by decide +kernel
theorem dX7_minutesUntilCleared_77 : decode cX7_minutesUntilCleared 77 = .ok (.if_icmp .le 7, 3) := by decide +kernel
theorem dX7_minutesUntilCleared_80 : decode cX7_minutesUntilCleared 80 = .ok (.iconst 1, 1) := by decide +kernel
theorem dX7_minutesUntilCleared_81 : decode cX7_minutesUntilCleared 81 = .ok (.goto 4, 3) := by decide +kernel
theorem dX7_minutesUntilCleared_84 : decode cX7_minutesUntilCleared 84 = .ok (.iconst 0, 1) := by decide +kernel
theorem dX7_minutesUntilCleared_85 : decode cX7_minutesUntilCleared 85 = .ok (.iconst 2, 1) := by decide +kernel
theorem dX7_minutesUntilCleared_86 : decode cX7_minutesUntilCleared 86 = .ok (.invokevirtual 79, 3) := by decide +kernel
theorem dX7_minutesUntilCleared_89 : decode cX7_minutesUntilCleared 89 = .ok (.ifCond .eq 7, 3) := by decide +kernel
theorem dX7_minutesUntilCleared_92 : decode cX7_minutesUntilCleared 92 = .ok (.iconst 0, 1) := by decide +kernel
theorem dX7_minutesUntilCleared_93 : decode cX7_minutesUntilCleared 93 = .ok (.goto 4, 3) := by decide +kernel
theorem dX7_minutesUntilCleared_96 : decode cX7_minutesUntilCleared 96 = .ok (.iload_n 2, 1) := by decide +kernel
theorem dX7_minutesUntilCleared_97 : decode cX7_minutesUntilCleared 97 = .ok (.ireturn, 1) := by decide +kernel
theorem dX7_depthAfter_0 : decode cX7_depthAfter 0 = .ok (.aload_n 0, 1) := by decide +kernel
theorem dX7_depthAfter_1 : decode cX7_depthAfter 1 = .ok (.aload_n 0, 1) := by decide +kernel
theorem dX7_depthAfter_2 : decode cX7_depthAfter 2 = .ok (.iload_n 1, 1) := by decide +kernel
theorem dX7_depthAfter_3 : decode cX7_depthAfter 3 = .ok (.invokevirtual 110, 3) := by decide +kernel
theorem dX7_depthAfter_6 : decode cX7_depthAfter 6 = .ok (.ifCond .ne 7, 3) := by decide +kernel
theorem dX7_depthAfter_9 : decode cX7_depthAfter 9 = .ok (.iconst 1, 1) := by decide +kernel
theorem dX7_depthAfter_10 : decode cX7_depthAfter 10 = .ok (.goto 4, 3) := by decide +kernel
theorem dX7_depthAfter_13 : decode cX7_depthAfter 13 = .ok (.iconst 0, 1) := by decide +kernel
theorem dX7_depthAfter_14 : decode cX7_depthAfter 14 = .ok (.iconst 1, 1) := by decide +kernel
theorem dX7_depthAfter_15 : decode cX7_depthAfter 15 = .ok (.invokevirtual 79, 3) := by decide +kernel
theorem dX7_depthAfter_18 : decode cX7_depthAfter 18 = .ok (.ifCond .ne 27, 3) := by decide +kernel
theorem dX7_depthAfter_21 : decode cX7_depthAfter 21 = .ok (.aload_n 0, 1) := by decide +kernel
theorem dX7_depthAfter_22 : decode cX7_depthAfter 22 = .ok (.iload_n 2, 1) := by decide +kernel
theorem dX7_depthAfter_23 : decode cX7_depthAfter 23 = .ok (.iconst 0, 1) := by decide +kernel
theorem dX7_depthAfter_24 : decode cX7_depthAfter 24 = .ok (.sipush 600, 3) := by decide +kernel
theorem dX7_depthAfter_27 : decode cX7_depthAfter 27 = .ok (.invokestatic 57, 3) := by decide +kernel
theorem dX7_depthAfter_30 : decode cX7_depthAfter 30 = .ok (.ifCond .ne 7, 3) := by decide +kernel
theorem dX7_depthAfter_33 : decode cX7_depthAfter 33 = .ok (.iconst 1, 1) := by decide +kernel
theorem dX7_depthAfter_34 : decode cX7_depthAfter 34 = .ok (.goto 4, 3) := by decide +kernel
theorem dX7_depthAfter_37 : decode cX7_depthAfter 37 = .ok (.iconst 0, 1) := by decide +kernel
theorem dX7_depthAfter_38 : decode cX7_depthAfter 38 = .ok (.iconst 2, 1) := by decide +kernel
theorem dX7_depthAfter_39 : decode cX7_depthAfter 39 = .ok (.invokevirtual 79, 3) := by decide +kernel
theorem dX7_depthAfter_42 : decode cX7_depthAfter 42 = .ok (.ifCond .eq 5, 3) := by decide +kernel
theorem dX7_depthAfter_45 : decode cX7_depthAfter 45 = .ok (.iconst 0, 1) := by decide +kernel
theorem dX7_depthAfter_46 : decode cX7_depthAfter 46 = .ok (.ireturn, 1) := by decide +kernel
theorem dX7_depthAfter_47 : decode cX7_depthAfter 47 = .ok (.aload_n 0, 1) := by decide +kernel
theorem dX7_depthAfter_48 : decode cX7_depthAfter 48 = .ok (.getfield 9, 3) := by decide +kernel
theorem dX7_depthAfter_51 : decode cX7_depthAfter 51 = .ok (.iconst 0, 1) := by decide +kernel
theorem dX7_depthAfter_52 : decode cX7_depthAfter 52 = .ok (.aload_n 0, 1) := by decide +kernel
theorem dX7_depthAfter_53 : decode cX7_depthAfter 53 = .ok (.getfield 16, 3) := by decide +kernel
theorem dX7_depthAfter_56 : decode cX7_depthAfter 56 = .ok (.iconst 0, 1) := by decide +kernel
theorem dX7_depthAfter_57 : decode cX7_depthAfter 57 = .ok (.invokestatic 50, 3) := by decide +kernel
theorem dX7_depthAfter_60 : decode cX7_depthAfter 60 = .ok (.iconst 0, 1) := by decide +kernel
theorem dX7_depthAfter_61 : decode cX7_depthAfter 61 = .ok (.istore_n 3, 1) := by decide +kernel
theorem dX7_depthAfter_62 : decode cX7_depthAfter 62 = .ok (.iload_n 3, 1) := by decide +kernel
theorem dX7_depthAfter_63 : decode cX7_depthAfter 63 = .ok (.iload_n 2, 1) := by decide +kernel
theorem dX7_depthAfter_64 : decode cX7_depthAfter 64 = .ok (.if_icmp .ge 26, 3) := by decide +kernel
theorem dX7_depthAfter_67 : decode cX7_depthAfter 67 = .ok (.aload_n 0, 1) := by decide +kernel
theorem dX7_depthAfter_68 : decode cX7_depthAfter 68 = .ok (.aload_n 0, 1) := by decide +kernel
theorem dX7_depthAfter_69 : decode cX7_depthAfter 69 = .ok (.iload_n 1, 1) := by decide +kernel
theorem dX7_depthAfter_70 : decode cX7_depthAfter 70 = .ok (.invokevirtual 159, 3) := by decide +kernel
theorem dX7_depthAfter_73 : decode cX7_depthAfter 73 = .ok (.ifCond .eq 7, 3) := by decide +kernel
theorem dX7_depthAfter_76 : decode cX7_depthAfter 76 = .ok (.iconst 1, 1) := by decide +kernel
theorem dX7_depthAfter_77 : decode cX7_depthAfter 77 = .ok (.goto 4, 3) := by decide +kernel
theorem dX7_depthAfter_80 : decode cX7_depthAfter 80 = .ok (.iconst 0, 1) := by decide +kernel
theorem dX7_depthAfter_81 : decode cX7_depthAfter 81 = .ok (.putfield 162, 3) := by decide +kernel
theorem dX7_depthAfter_84 : decode cX7_depthAfter 84 = .ok (.iinc 3 1, 3) := by decide +kernel
theorem dX7_depthAfter_87 : decode cX7_depthAfter 87 = .ok (.goto (-25), 3) := by decide +kernel
theorem dX7_depthAfter_90 : decode cX7_depthAfter 90 = .ok (.aload_n 0, 1) := by decide +kernel
theorem dX7_depthAfter_91 : decode cX7_depthAfter 91 = .ok (.iload_n 1, 1) := by decide +kernel
theorem dX7_depthAfter_92 : decode cX7_depthAfter 92 = .ok (.iconst 4, 1) := by decide +kernel
theorem dX7_depthAfter_93 : decode cX7_depthAfter 93 = .ok (.invokevirtual 61, 3) := by decide +kernel
theorem dX7_depthAfter_96 : decode cX7_depthAfter 96 = .ok (.istore_n 3, 1) := by decide +kernel
theorem dX7_depthAfter_97 : decode cX7_depthAfter 97 = .ok (.aload_n 0, 1) := by decide +kernel
theorem dX7_depthAfter_98 : decode cX7_depthAfter 98 = .ok (.getfield 16, 3) := by decide +kernel
theorem dX7_depthAfter_101 : decode cX7_depthAfter 101 = .ok (.iconst 0, 1) := by decide +kernel
theorem dX7_depthAfter_102 : decode cX7_depthAfter 102 = .ok (.aload_n 0, 1) := by decide +kernel
theorem dX7_depthAfter_103 : decode cX7_depthAfter 103 = .ok (.getfield 9, 3) := by decide +kernel
theorem dX7_depthAfter_106 : decode cX7_depthAfter 106 = .ok (.iconst 0, 1) := by decide +kernel
theorem dX7_depthAfter_107 : decode cX7_depthAfter 107 = .ok (.invokestatic 50, 3) := by decide +kernel
theorem dX7_depthAfter_110 : decode cX7_depthAfter 110 = .ok (.iload_n 3, 1) := by decide +kernel
theorem dX7_depthAfter_111 : decode cX7_depthAfter 111 = .ok (.ireturn, 1) := by decide +kernel
theorem dX7_time_0 : decode cX7_time 0 = .ok (.aload_n 0, 1) := by decide +kernel
theorem dX7_time_1 : decode cX7_time 1 = .ok (.iconst 0, 1) := by decide +kernel
theorem dX7_time_2 : decode cX7_time 2 = .ok (.putfield 47, 3) := by decide +kernel
theorem dX7_time_5 : decode cX7_time 5 = .ok (.aload_n 0, 1) := by decide +kernel
theorem dX7_time_6 : decode cX7_time 6 = .ok (.getfield 9, 3) := by decide +kernel
theorem dX7_time_9 : decode cX7_time 9 = .ok (.iconst 0, 1) := by decide +kernel
theorem dX7_time_10 : decode cX7_time 10 = .ok (.iaload, 1) := by decide +kernel
theorem dX7_time_11 : decode cX7_time 11 = .ok (.ireturn, 1) := by decide +kernel
theorem dX7_saltStore_0 : decode cX7_saltStore 0 = .ok (.aload_n 0, 1) := by decide +kernel
theorem dX7_saltStore_1 : decode cX7_saltStore 1 = .ok (.iconst 0, 1) := by decide +kernel
theorem dX7_saltStore_2 : decode cX7_saltStore 2 = .ok (.putfield 47, 3) := by decide +kernel
theorem dX7_saltStore_5 : decode cX7_saltStore 5 = .ok (.aload_n 0, 1) := by decide +kernel
theorem dX7_saltStore_6 : decode cX7_saltStore 6 = .ok (.getfield 9, 3) := by decide +kernel
theorem dX7_saltStore_9 : decode cX7_saltStore 9 = .ok (.iconst 3, 1) := by decide +kernel
theorem dX7_saltStore_10 : decode cX7_saltStore 10 = .ok (.iaload, 1) := by decide +kernel
theorem dX7_saltStore_11 : decode cX7_saltStore 11 = .ok (.ireturn, 1) := by decide +kernel
theorem dX7_snowfall_0 : decode cX7_snowfall 0 = .ok (.aload_n 0, 1) := by decide +kernel
theorem dX7_snowfall_1 : decode cX7_snowfall 1 = .ok (.iconst 0, 1) := by decide +kernel
theorem dX7_snowfall_2 : decode cX7_snowfall 2 = .ok (.putfield 47, 3) := by decide +kernel
theorem dX7_snowfall_5 : decode cX7_snowfall 5 = .ok (.aload_n 0, 1) := by decide +kernel
theorem dX7_snowfall_6 : decode cX7_snowfall 6 = .ok (.getfield 9, 3) := by decide +kernel
theorem dX7_snowfall_9 : decode cX7_snowfall 9 = .ok (.iconst 4, 1) := by decide +kernel
theorem dX7_snowfall_10 : decode cX7_snowfall 10 = .ok (.iaload, 1) := by decide +kernel
theorem dX7_snowfall_11 : decode cX7_snowfall 11 = .ok (.ireturn, 1) := by decide +kernel
theorem dX7_wind_0 : decode cX7_wind 0 = .ok (.aload_n 0, 1) := by decide +kernel
theorem dX7_wind_1 : decode cX7_wind 1 = .ok (.iconst 0, 1) := by decide +kernel
theorem dX7_wind_2 : decode cX7_wind 2 = .ok (.putfield 47, 3) := by decide +kernel
theorem dX7_wind_5 : decode cX7_wind 5 = .ok (.aload_n 0, 1) := by decide +kernel
theorem dX7_wind_6 : decode cX7_wind 6 = .ok (.getfield 9, 3) := by decide +kernel
theorem dX7_wind_9 : decode cX7_wind 9 = .ok (.iconst 5, 1) := by decide +kernel
theorem dX7_wind_10 : decode cX7_wind 10 = .ok (.iaload, 1) := by decide +kernel
theorem dX7_wind_11 : decode cX7_wind 11 = .ok (.ireturn, 1) := by decide +kernel
theorem dX7_clearedTotal_0 : decode cX7_clearedTotal 0 = .ok (.aload_n 0, 1) := by decide +kernel
theorem dX7_clearedTotal_1 : decode cX7_clearedTotal 1 = .ok (.iconst 0, 1) := by decide +kernel
theorem dX7_clearedTotal_2 : decode cX7_clearedTotal 2 = .ok (.putfield 47, 3) := by decide +kernel
theorem dX7_clearedTotal_5 : decode cX7_clearedTotal 5 = .ok (.aload_n 0, 1) := by decide +kernel
theorem dX7_clearedTotal_6 : decode cX7_clearedTotal 6 = .ok (.getfield 9, 3) := by decide +kernel
theorem dX7_clearedTotal_9 : decode cX7_clearedTotal 9 = .ok (.bipush 6, 2) := by decide +kernel
theorem dX7_clearedTotal_11 : decode cX7_clearedTotal 11 = .ok (.iaload, 1) := by decide +kernel
theorem dX7_clearedTotal_12 : decode cX7_clearedTotal 12 = .ok (.ireturn, 1) := by decide +kernel
theorem dX7_ploughedTotal_0 : decode cX7_ploughedTotal 0 = .ok (.aload_n 0, 1) := by decide +kernel
theorem dX7_ploughedTotal_1 : decode cX7_ploughedTotal 1 = .ok (.iconst 0, 1) := by decide +kernel
theorem dX7_ploughedTotal_2 : decode cX7_ploughedTotal 2 = .ok (.putfield 47, 3) := by decide +kernel
theorem dX7_ploughedTotal_5 : decode cX7_ploughedTotal 5 = .ok (.aload_n 0, 1) := by decide +kernel
theorem dX7_ploughedTotal_6 : decode cX7_ploughedTotal 6 = .ok (.getfield 9, 3) := by decide +kernel
theorem dX7_ploughedTotal_9 : decode cX7_ploughedTotal 9 = .ok (.bipush 7, 2) := by decide +kernel
theorem dX7_ploughedTotal_11 : decode cX7_ploughedTotal 11 = .ok (.iaload, 1) := by decide +kernel
theorem dX7_ploughedTotal_12 : decode cX7_ploughedTotal 12 = .ok (.ireturn, 1) := by decide +kernel
theorem dX7_failedOrders_0 : decode cX7_failedOrders 0 = .ok (.aload_n 0, 1) := by decide +kernel
theorem dX7_failedOrders_1 : decode cX7_failedOrders 1 = .ok (.iconst 0, 1) := by decide +kernel
theorem dX7_failedOrders_2 : decode cX7_failedOrders 2 = .ok (.putfield 47, 3) := by decide +kernel
theorem dX7_failedOrders_5 : decode cX7_failedOrders 5 = .ok (.aload_n 0, 1) := by decide +kernel
theorem dX7_failedOrders_6 : decode cX7_failedOrders 6 = .ok (.getfield 9, 3) := by decide +kernel
theorem dX7_failedOrders_9 : decode cX7_failedOrders 9 = .ok (.bipush 8, 2) := by decide +kernel
theorem dX7_failedOrders_11 : decode cX7_failedOrders 11 = .ok (.iaload, 1) := by decide +kernel
theorem dX7_failedOrders_12 : decode cX7_failedOrders 12 = .ok (.ireturn, 1) := by decide +kernel
theorem dX7_complaintTotal_0 : decode cX7_complaintTotal 0 = .ok (.aload_n 0, 1) := by decide +kernel
theorem dX7_complaintTotal_1 : decode cX7_complaintTotal 1 = .ok (.iconst 0, 1) := by decide +kernel
theorem dX7_complaintTotal_2 : decode cX7_complaintTotal 2 = .ok (.putfield 47, 3) := by decide +kernel
theorem dX7_complaintTotal_5 : decode cX7_complaintTotal 5 = .ok (.aload_n 0, 1) := by decide +kernel
theorem dX7_complaintTotal_6 : decode cX7_complaintTotal 6 = .ok (.getfield 9, 3) := by decide +kernel
theorem dX7_complaintTotal_9 : decode cX7_complaintTotal 9 = .ok (.bipush 9, 2) := by decide +kernel
theorem dX7_complaintTotal_11 : decode cX7_complaintTotal 11 = .ok (.iaload, 1) := by decide +kernel
theorem dX7_complaintTotal_12 : decode cX7_complaintTotal 12 = .ok (.ireturn, 1) := by decide +kernel
theorem dX7_meanDepth_0 : decode cX7_meanDepth 0 = .ok (.iconst 0, 1) := by decide +kernel
theorem dX7_meanDepth_1 : decode cX7_meanDepth 1 = .ok (.istore_n 1, 1) := by decide +kernel
theorem dX7_meanDepth_2 : decode cX7_meanDepth 2 = .ok (.iconst 0, 1) := by decide +kernel
theorem dX7_meanDepth_3 : decode cX7_meanDepth 3 = .ok (.istore_n 2, 1) := by decide +kernel
theorem dX7_meanDepth_4 : decode cX7_meanDepth 4 = .ok (.iload_n 2, 1) := by decide +kernel
theorem dX7_meanDepth_5 : decode cX7_meanDepth 5 = .ok (.aload_n 0, 1) := by decide +kernel
theorem dX7_meanDepth_6 : decode cX7_meanDepth 6 = .ok (.getfield 9, 3) := by decide +kernel
theorem dX7_meanDepth_9 : decode cX7_meanDepth 9 = .ok (.iconst 1, 1) := by decide +kernel
theorem dX7_meanDepth_10 : decode cX7_meanDepth 10 = .ok (.iaload, 1) := by decide +kernel
theorem dX7_meanDepth_11 : decode cX7_meanDepth 11 = .ok (.if_icmp .ge 18, 3) := by decide +kernel
theorem dX7_meanDepth_14 : decode cX7_meanDepth 14 = .ok (.iload_n 1, 1) := by decide +kernel
theorem dX7_meanDepth_15 : decode cX7_meanDepth 15 = .ok (.aload_n 0, 1) := by decide +kernel
theorem dX7_meanDepth_16 : decode cX7_meanDepth 16 = .ok (.iload_n 2, 1) := by decide +kernel
theorem dX7_meanDepth_17 : decode cX7_meanDepth 17 = .ok (.iconst 4, 1) := by decide +kernel
theorem dX7_meanDepth_18 : decode cX7_meanDepth 18 = .ok (.invokevirtual 61, 3) := by decide +kernel
theorem dX7_meanDepth_21 : decode cX7_meanDepth 21 = .ok (.iadd, 1) := by decide +kernel
theorem dX7_meanDepth_22 : decode cX7_meanDepth 22 = .ok (.istore_n 1, 1) := by decide +kernel
theorem dX7_meanDepth_23 : decode cX7_meanDepth 23 = .ok (.iinc 2 1, 3) := by decide +kernel
theorem dX7_meanDepth_26 : decode cX7_meanDepth 26 = .ok (.goto (-22), 3) := by decide +kernel
theorem dX7_meanDepth_29 : decode cX7_meanDepth 29 = .ok (.aload_n 0, 1) := by decide +kernel
theorem dX7_meanDepth_30 : decode cX7_meanDepth 30 = .ok (.aload_n 0, 1) := by decide +kernel
theorem dX7_meanDepth_31 : decode cX7_meanDepth 31 = .ok (.getfield 9, 3) := by decide +kernel
theorem dX7_meanDepth_34 : decode cX7_meanDepth 34 = .ok (.iconst 1, 1) := by decide +kernel
theorem dX7_meanDepth_35 : decode cX7_meanDepth 35 = .ok (.iaload, 1) := by decide +kernel
theorem dX7_meanDepth_36 : decode cX7_meanDepth 36 = .ok (.ifCond .ne 7, 3) := by decide +kernel
theorem dX7_meanDepth_39 : decode cX7_meanDepth 39 = .ok (.iconst 1, 1) := by decide +kernel
theorem dX7_meanDepth_40 : decode cX7_meanDepth 40 = .ok (.goto 4, 3) := by decide +kernel
theorem dX7_meanDepth_43 : decode cX7_meanDepth 43 = .ok (.iconst 0, 1) := by decide +kernel
theorem dX7_meanDepth_44 : decode cX7_meanDepth 44 = .ok (.iconst 1, 1) := by decide +kernel
theorem dX7_meanDepth_45 : decode cX7_meanDepth 45 = .ok (.invokevirtual 79, 3) := by decide +kernel
theorem dX7_meanDepth_48 : decode cX7_meanDepth 48 = .ok (.ifCond .eq 7, 3) := by decide +kernel
theorem dX7_meanDepth_51 : decode cX7_meanDepth 51 = .ok (.dconst 0, 1) := by decide +kernel
theorem dX7_meanDepth_52 : decode cX7_meanDepth 52 = .ok (.goto 13, 3) := by decide +kernel
theorem dX7_meanDepth_55 : decode cX7_meanDepth 55 = .ok (.iload_n 1, 1) := by decide +kernel
theorem dX7_meanDepth_56 : decode cX7_meanDepth 56 = .ok (.i2d, 1) := by decide +kernel
theorem dX7_meanDepth_57 : decode cX7_meanDepth 57 = .ok (.aload_n 0, 1) := by decide +kernel
theorem dX7_meanDepth_58 : decode cX7_meanDepth 58 = .ok (.getfield 9, 3) := by decide +kernel
theorem dX7_meanDepth_61 : decode cX7_meanDepth 61 = .ok (.iconst 1, 1) := by decide +kernel
theorem dX7_meanDepth_62 : decode cX7_meanDepth 62 = .ok (.iaload, 1) := by decide +kernel
theorem dX7_meanDepth_63 : decode cX7_meanDepth 63 = .ok (.i2d, 1) := by decide +kernel
theorem dX7_meanDepth_64 : decode cX7_meanDepth 64 = .ok (.ddiv, 1) := by decide +kernel
theorem dX7_meanDepth_65 : decode cX7_meanDepth 65 = .ok (.dreturn, 1) := by decide +kernel
theorem dX7_saltedShare_0 : decode cX7_saltedShare 0 = .ok (.iconst 0, 1) := by decide +kernel
theorem dX7_saltedShare_1 : decode cX7_saltedShare 1 = .ok (.istore_n 1, 1) := by decide +kernel
theorem dX7_saltedShare_2 : decode cX7_saltedShare 2 = .ok (.iconst 0, 1) := by decide +kernel
theorem dX7_saltedShare_3 : decode cX7_saltedShare 3 = .ok (.istore_n 2, 1) := by decide +kernel
theorem dX7_saltedShare_4 : decode cX7_saltedShare 4 = .ok (.iload_n 2, 1) := by decide +kernel
theorem dX7_saltedShare_5 : decode cX7_saltedShare 5 = .ok (.aload_n 0, 1) := by decide +kernel
theorem dX7_saltedShare_6 : decode cX7_saltedShare 6 = .ok (.getfield 9, 3) := by decide +kernel
theorem dX7_saltedShare_9 : decode cX7_saltedShare 9 = .ok (.iconst 1, 1) := by decide +kernel
theorem dX7_saltedShare_10 : decode cX7_saltedShare 10 = .ok (.iaload, 1) := by decide +kernel
theorem dX7_saltedShare_11 : decode cX7_saltedShare 11 = .ok (.if_icmp .ge 25, 3) := by decide +kernel
theorem dX7_saltedShare_14 : decode cX7_saltedShare 14 = .ok (.iload_n 1, 1) := by decide +kernel
theorem dX7_saltedShare_15 : decode cX7_saltedShare 15 = .ok (.aload_n 0, 1) := by decide +kernel
theorem dX7_saltedShare_16 : decode cX7_saltedShare 16 = .ok (.iload_n 2, 1) := by decide +kernel
theorem dX7_saltedShare_17 : decode cX7_saltedShare 17 = .ok (.invokevirtual 122, 3) := by decide +kernel
theorem dX7_saltedShare_20 : decode cX7_saltedShare 20 = .ok (.ifCond .eq 7, 3) := by decide +kernel
theorem dX7_saltedShare_23 : decode cX7_saltedShare 23 = .ok (.iconst 1, 1) := by decide +kernel
theorem dX7_saltedShare_24 : decode cX7_saltedShare 24 = .ok (.goto 4, 3) := by decide +kernel
theorem dX7_saltedShare_27 : decode cX7_saltedShare 27 = .ok (.iconst 0, 1) := by decide +kernel
theorem dX7_saltedShare_28 : decode cX7_saltedShare 28 = .ok (.iadd, 1) := by decide +kernel
theorem dX7_saltedShare_29 : decode cX7_saltedShare 29 = .ok (.istore_n 1, 1) := by decide +kernel
theorem dX7_saltedShare_30 : decode cX7_saltedShare 30 = .ok (.iinc 2 1, 3) := by decide +kernel
theorem dX7_saltedShare_33 : decode cX7_saltedShare 33 = .ok (.goto (-29), 3) := by decide +kernel
theorem dX7_saltedShare_36 : decode cX7_saltedShare 36 = .ok (.aload_n 0, 1) := by decide +kernel
theorem dX7_saltedShare_37 : decode cX7_saltedShare 37 = .ok (.aload_n 0, 1) := by decide +kernel
theorem dX7_saltedShare_38 : decode cX7_saltedShare 38 = .ok (.getfield 9, 3) := by decide +kernel
theorem dX7_saltedShare_41 : decode cX7_saltedShare 41 = .ok (.iconst 1, 1) := by decide +kernel
theorem dX7_saltedShare_42 : decode cX7_saltedShare 42 = .ok (.iaload, 1) := by decide +kernel
theorem dX7_saltedShare_43 : decode cX7_saltedShare 43 = .ok (.ifCond .ne 7, 3) := by decide +kernel
theorem dX7_saltedShare_46 : decode cX7_saltedShare 46 = .ok (.iconst 1, 1) := by decide +kernel
theorem dX7_saltedShare_47 : decode cX7_saltedShare 47 = .ok (.goto 4, 3) := by decide +kernel
theorem dX7_saltedShare_50 : decode cX7_saltedShare 50 = .ok (.iconst 0, 1) := by decide +kernel
theorem dX7_saltedShare_51 : decode cX7_saltedShare 51 = .ok (.iconst 1, 1) := by decide +kernel
theorem dX7_saltedShare_52 : decode cX7_saltedShare 52 = .ok (.invokevirtual 79, 3) := by decide +kernel
theorem dX7_saltedShare_55 : decode cX7_saltedShare 55 = .ok (.ifCond .eq 7, 3) := by decide +kernel
theorem dX7_saltedShare_58 : decode cX7_saltedShare 58 = .ok (.fconst 0, 1) := by decide +kernel
theorem dX7_saltedShare_59 : decode cX7_saltedShare 59 = .ok (.goto 13, 3) := by decide +kernel
theorem dX7_saltedShare_62 : decode cX7_saltedShare 62 = .ok (.iload_n 1, 1) := by decide +kernel
theorem dX7_saltedShare_63 : decode cX7_saltedShare 63 = .ok (.i2f, 1) := by decide +kernel
theorem dX7_saltedShare_64 : decode cX7_saltedShare 64 = .ok (.aload_n 0, 1) := by decide +kernel
theorem dX7_saltedShare_65 : decode cX7_saltedShare 65 = .ok (.getfield 9, 3) := by decide +kernel
theorem dX7_saltedShare_68 : decode cX7_saltedShare 68 = .ok (.iconst 1, 1) := by decide +kernel
theorem dX7_saltedShare_69 : decode cX7_saltedShare 69 = .ok (.iaload, 1) := by decide +kernel
theorem dX7_saltedShare_70 : decode cX7_saltedShare 70 = .ok (.i2f, 1) := by decide +kernel
theorem dX7_saltedShare_71 : decode cX7_saltedShare 71 = .ok (.fdiv, 1) := by decide +kernel
theorem dX7_saltedShare_72 : decode cX7_saltedShare 72 = .ok (.freturn, 1) := by decide +kernel
theorem dX7_isConsistent_0 : decode cX7_isConsistent 0 = .ok (.aload_n 0, 1) := by decide +kernel
theorem dX7_isConsistent_1 : decode cX7_isConsistent 1 = .ok (.iconst 0, 1) := by decide +kernel
theorem dX7_isConsistent_2 : decode cX7_isConsistent 2 = .ok (.putfield 47, 3) := by decide +kernel
theorem dX7_isConsistent_5 : decode cX7_isConsistent 5 = .ok (.iconst 0, 1) := by decide +kernel
theorem dX7_isConsistent_6 : decode cX7_isConsistent 6 = .ok (.istore_n 1, 1) := by decide +kernel
theorem dX7_isConsistent_7 : decode cX7_isConsistent 7 = .ok (.iconst 1, 1) := by decide +kernel
theorem dX7_isConsistent_8 : decode cX7_isConsistent 8 = .ok (.istore_n 2, 1) := by decide +kernel
theorem dX7_isConsistent_9 : decode cX7_isConsistent 9 = .ok (.iconst 0, 1) := by decide +kernel
theorem dX7_isConsistent_10 : decode cX7_isConsistent 10 = .ok (.istore_n 3, 1) := by decide +kernel
theorem dX7_isConsistent_11 : decode cX7_isConsistent 11 = .ok (.iload_n 3, 1) := by decide +kernel
theorem dX7_isConsistent_12 : decode cX7_isConsistent 12 = .ok (.aload_n 0, 1) := by decide +kernel
theorem dX7_isConsistent_13 : decode cX7_isConsistent 13 = .ok (.getfield 9, 3) := by decide +kernel
theorem dX7_isConsistent_16 : decode cX7_isConsistent 16 = .ok (.iconst 1, 1) := by decide +kernel
theorem dX7_isConsistent_17 : decode cX7_isConsistent 17 = .ok (.iaload, 1) := by decide +kernel
theorem dX7_isConsistent_18 : decode cX7_isConsistent 18 = .ok (.if_icmp .ge 35, 3) := by decide +kernel
theorem dX7_isConsistent_21 : decode cX7_isConsistent 21 = .ok (.iload_n 1, 1) := by decide +kernel
theorem dX7_isConsistent_22 : decode cX7_isConsistent 22 = .ok (.aload_n 0, 1) := by decide +kernel
theorem dX7_isConsistent_23 : decode cX7_isConsistent 23 = .ok (.iload_n 3, 1) := by decide +kernel
theorem dX7_isConsistent_24 : decode cX7_isConsistent 24 = .ok (.bipush 6, 2) := by decide +kernel
theorem dX7_isConsistent_26 : decode cX7_isConsistent 26 = .ok (.invokevirtual 61, 3) := by decide +kernel
theorem dX7_isConsistent_29 : decode cX7_isConsistent 29 = .ok (.iadd, 1) := by decide +kernel
theorem dX7_isConsistent_30 : decode cX7_isConsistent 30 = .ok (.istore_n 1, 1) := by decide +kernel
theorem dX7_isConsistent_31 : decode cX7_isConsistent 31 = .ok (.iload_n 2, 1) := by decide +kernel
theorem dX7_isConsistent_32 : decode cX7_isConsistent 32 = .ok (.aload_n 0, 1) := by decide +kernel
theorem dX7_isConsistent_33 : decode cX7_isConsistent 33 = .ok (.iload_n 3, 1) := by decide +kernel
theorem dX7_isConsistent_34 : decode cX7_isConsistent 34 = .ok (.iconst 4, 1) := by decide +kernel
theorem dX7_isConsistent_35 : decode cX7_isConsistent 35 = .ok (.invokevirtual 61, 3) := by decide +kernel
theorem dX7_isConsistent_38 : decode cX7_isConsistent 38 = .ok (.iconst 0, 1) := by decide +kernel
theorem dX7_isConsistent_39 : decode cX7_isConsistent 39 = .ok (.sipush 200, 3) := by decide +kernel
theorem dX7_isConsistent_42 : decode cX7_isConsistent 42 = .ok (.invokestatic 57, 3) := by decide +kernel
theorem dX7_isConsistent_45 : decode cX7_isConsistent 45 = .ok (.iand, 1) := by decide +kernel
theorem dX7_isConsistent_46 : decode cX7_isConsistent 46 = .ok (.istore_n 2, 1) := by decide +kernel
theorem dX7_isConsistent_47 : decode cX7_isConsistent 47 = .ok (.iinc 3 1, 3) := by decide +kernel
theorem dX7_isConsistent_50 : decode cX7_isConsistent 50 = .ok (.goto (-39), 3) := by decide +kernel
theorem dX7_isConsistent_53 : decode cX7_isConsistent 53 = .ok (.iload_n 2, 1) := by decide +kernel
theorem dX7_isConsistent_54 : decode cX7_isConsistent 54 = .ok (.ifCond .eq 18, 3) := by decide +kernel
theorem dX7_isConsistent_57 : decode cX7_isConsistent 57 = .ok (.iload_n 1, 1) := by decide +kernel
theorem dX7_isConsistent_58 : decode cX7_isConsistent 58 = .ok (.aload_n 0, 1) := by decide +kernel
theorem dX7_isConsistent_59 : decode cX7_isConsistent 59 = .ok (.getfield 9, 3) := by decide +kernel
theorem dX7_isConsistent_62 : decode cX7_isConsistent 62 = .ok (.bipush 9, 2) := by decide +kernel
theorem dX7_isConsistent_64 : decode cX7_isConsistent 64 = .ok (.iaload, 1) := by decide +kernel
theorem dX7_isConsistent_65 : decode cX7_isConsistent 65 = .ok (.if_icmp .ne 7, 3) := by decide +kernel
theorem dX7_isConsistent_68 : decode cX7_isConsistent 68 = .ok (.iconst 1, 1) := by decide +kernel
theorem dX7_isConsistent_69 : decode cX7_isConsistent 69 = .ok (.goto 4, 3) := by decide +kernel
theorem dX7_isConsistent_72 : decode cX7_isConsistent 72 = .ok (.iconst 0, 1) := by decide +kernel
theorem dX7_isConsistent_73 : decode cX7_isConsistent 73 = .ok (.ireturn, 1) := by decide +kernel
theorem dX7_puts_0 : decode cX7_puts 0 = .ok (.aload_n 0, 1) := by decide +kernel
theorem dX7_puts_1 : decode cX7_puts 1 = .ok (.getfield 38, 3) := by decide +kernel
theorem dX7_puts_4 : decode cX7_puts 4 = .ok (.aload_n 0, 1) := by decide +kernel
theorem dX7_puts_5 : decode cX7_puts 5 = .ok (.getfield 180, 3) := by decide +kernel
theorem dX7_puts_8 : decode cX7_puts 8 = .ok (.iload_n 1, 1) := by decide +kernel
theorem dX7_puts_9 : decode cX7_puts 9 = .ok (.iastore, 1) := by decide +kernel
theorem dX7_puts_10 : decode cX7_puts 10 = .ok (.aload_n 0, 1) := by decide +kernel
theorem dX7_puts_11 : decode cX7_puts 11 = .ok (.dup, 1) := by decide +kernel
theorem dX7_puts_12 : decode cX7_puts 12 = .ok (.getfield 180, 3) := by decide +kernel
theorem dX7_puts_15 : decode cX7_puts 15 = .ok (.iconst 1, 1) := by decide +kernel
theorem dX7_puts_16 : decode cX7_puts 16 = .ok (.iadd, 1) := by decide +kernel
theorem dX7_puts_17 : decode cX7_puts 17 = .ok (.putfield 180, 3) := by decide +kernel
theorem dX7_puts_20 : decode cX7_puts 20 = .ok (.return_, 1) := by decide +kernel
theorem dX7_number_0 : decode cX7_number 0 = .ok (.iload_n 1, 1) := by decide +kernel
theorem dX7_number_1 : decode cX7_number 1 = .ok (.bipush 10, 2) := by decide +kernel
theorem dX7_number_3 : decode cX7_number 3 = .ok (.if_icmp .lt 11, 3) := by decide +kernel
theorem dX7_number_6 : decode cX7_number 6 = .ok (.aload_n 0, 1) := by decide +kernel
theorem dX7_number_7 : decode cX7_number 7 = .ok (.iload_n 1, 1) := by decide +kernel
theorem dX7_number_8 : decode cX7_number 8 = .ok (.bipush 10, 2) := by decide +kernel
theorem dX7_number_10 : decode cX7_number 10 = .ok (.idiv, 1) := by decide +kernel
theorem dX7_number_11 : decode cX7_number 11 = .ok (.invokevirtual 183, 3) := by decide +kernel
theorem dX7_number_14 : decode cX7_number 14 = .ok (.aload_n 0, 1) := by decide +kernel
theorem dX7_number_15 : decode cX7_number 15 = .ok (.bipush 48, 2) := by decide +kernel
theorem dX7_number_17 : decode cX7_number 17 = .ok (.iload_n 1, 1) := by decide +kernel
theorem dX7_number_18 : decode cX7_number 18 = .ok (.bipush 10, 2) := by decide +kernel
theorem dX7_number_20 : decode cX7_number 20 = .ok (.irem, 1) := by decide +kernel
theorem dX7_number_21 : decode cX7_number 21 = .ok (.iadd, 1) := by decide +kernel
theorem dX7_number_22 : decode cX7_number 22 = .ok (.invokevirtual 186, 3) := by decide +kernel
theorem dX7_number_25 : decode cX7_number 25 = .ok (.return_, 1) := by decide +kernel
theorem dX7_renderStreet_0 : decode cX7_renderStreet 0 = .ok (.aload_n 0, 1) := by decide +kernel
theorem dX7_renderStreet_1 : decode cX7_renderStreet 1 = .ok (.aload_n 0, 1) := by decide +kernel
theorem dX7_renderStreet_2 : decode cX7_renderStreet 2 = .ok (.iload_n 1, 1) := by decide +kernel
theorem dX7_renderStreet_3 : decode cX7_renderStreet 3 = .ok (.invokevirtual 110, 3) := by decide +kernel
theorem dX7_renderStreet_6 : decode cX7_renderStreet 6 = .ok (.ifCond .ne 7, 3) := by decide +kernel
theorem dX7_renderStreet_9 : decode cX7_renderStreet 9 = .ok (.iconst 1, 1) := by decide +kernel
theorem dX7_renderStreet_10 : decode cX7_renderStreet 10 = .ok (.goto 4, 3) := by decide +kernel
theorem dX7_renderStreet_13 : decode cX7_renderStreet 13 = .ok (.iconst 0, 1) := by decide +kernel
theorem dX7_renderStreet_14 : decode cX7_renderStreet 14 = .ok (.iconst 1, 1) := by decide +kernel
theorem dX7_renderStreet_15 : decode cX7_renderStreet 15 = .ok (.invokevirtual 79, 3) := by decide +kernel
theorem dX7_renderStreet_18 : decode cX7_renderStreet 18 = .ok (.ifCond .eq 5, 3) := by decide +kernel
theorem dX7_renderStreet_21 : decode cX7_renderStreet 21 = .ok (.iconst 0, 1) := by decide +kernel
theorem dX7_renderStreet_22 : decode cX7_renderStreet 22 = .ok (.ireturn, 1) := by decide +kernel
theorem dX7_renderStreet_23 : decode cX7_renderStreet 23 = .ok (.aload_n 0, 1) := by decide +kernel
theorem dX7_renderStreet_24 : decode cX7_renderStreet 24 = .ok (.iconst 0, 1) := by decide +kernel
theorem dX7_renderStreet_25 : decode cX7_renderStreet 25 = .ok (.putfield 180, 3) := by decide +kernel
theorem dX7_renderStreet_28 : decode cX7_renderStreet 28 = .ok (.aload_n 0, 1) := by decide +kernel
theorem dX7_renderStreet_29 : decode cX7_renderStreet 29 = .ok (.iload_n 1, 1) := by decide +kernel
theorem dX7_renderStreet_30 : decode cX7_renderStreet 30 = .ok (.invokevirtual 183, 3) := by decide +kernel
theorem dX7_renderStreet_33 : decode cX7_renderStreet 33 = .ok (.aload_n 0, 1) := by decide +kernel
theorem dX7_renderStreet_34 : decode cX7_renderStreet 34 = .ok (.bipush 58, 2) := by decide +kernel
theorem dX7_renderStreet_36 : decode cX7_renderStreet 36 = .ok (.invokevirtual 186, 3) := by decide +kernel
theorem dX7_renderStreet_39 : decode cX7_renderStreet 39 = .ok (.aload_n 0, 1) := by decide +kernel
theorem dX7_renderStreet_40 : decode cX7_renderStreet 40 = .ok (.aload_n 0, 1) := by decide +kernel
theorem dX7_renderStreet_41 : decode cX7_renderStreet 41 = .ok (.iload_n 1, 1) := by decide +kernel
theorem dX7_renderStreet_42 : decode cX7_renderStreet 42 = .ok (.iconst 0, 1) := by decide +kernel
theorem dX7_renderStreet_43 : decode cX7_renderStreet 43 = .ok (.invokevirtual 61, 3) := by decide +kernel
theorem dX7_renderStreet_46 : decode cX7_renderStreet 46 = .ok (.invokevirtual 183, 3) := by decide +kernel
theorem dX7_renderStreet_49 : decode cX7_renderStreet 49 = .ok (.aload_n 0, 1) := by decide +kernel
theorem dX7_renderStreet_50 : decode cX7_renderStreet 50 = .ok (.bipush 45, 2) := by decide +kernel
theorem dX7_renderStreet_52 : decode cX7_renderStreet 52 = .ok (.invokevirtual 186, 3) := by decide +kernel
theorem dX7_renderStreet_55 : decode cX7_renderStreet 55 = .ok (.aload_n 0, 1) := by decide +kernel
theorem dX7_renderStreet_56 : decode cX7_renderStreet 56 = .ok (.aload_n 0, 1) := by decide +kernel
theorem dX7_renderStreet_57 : decode cX7_renderStreet 57 = .ok (.iload_n 1, 1) := by decide +kernel
theorem dX7_renderStreet_58 : decode cX7_renderStreet 58 = .ok (.iconst 1, 1) := by decide +kernel
theorem dX7_renderStreet_59 : decode cX7_renderStreet 59 = .ok (.invokevirtual 61, 3) := by decide +kernel
theorem dX7_renderStreet_62 : decode cX7_renderStreet 62 = .ok (.invokevirtual 183, 3) := by decide +kernel
theorem dX7_renderStreet_65 : decode cX7_renderStreet 65 = .ok (.aload_n 0, 1) := by decide +kernel
theorem dX7_renderStreet_66 : decode cX7_renderStreet 66 = .ok (.aload_n 0, 1) := by decide +kernel
theorem dX7_renderStreet_67 : decode cX7_renderStreet 67 = .ok (.iload_n 1, 1) := by decide +kernel
theorem dX7_renderStreet_68 : decode cX7_renderStreet 68 = .ok (.iconst 2, 1) := by decide +kernel
theorem dX7_renderStreet_69 : decode cX7_renderStreet 69 = .ok (.invokevirtual 61, 3) := by decide +kernel
theorem dX7_renderStreet_72 : decode cX7_renderStreet 72 = .ok (.invokevirtual 186, 3) := by decide +kernel
theorem dX7_renderStreet_75 : decode cX7_renderStreet 75 = .ok (.aload_n 0, 1) := by decide +kernel
theorem dX7_renderStreet_76 : decode cX7_renderStreet 76 = .ok (.aload_n 0, 1) := by decide +kernel
theorem dX7_renderStreet_77 : decode cX7_renderStreet 77 = .ok (.iload_n 1, 1) := by decide +kernel
theorem dX7_renderStreet_78 : decode cX7_renderStreet 78 = .ok (.iconst 4, 1) := by decide +kernel
theorem dX7_renderStreet_79 : decode cX7_renderStreet 79 = .ok (.invokevirtual 61, 3) := by decide +kernel
theorem dX7_renderStreet_82 : decode cX7_renderStreet 82 = .ok (.invokevirtual 183, 3) := by decide +kernel
theorem dX7_renderStreet_85 : decode cX7_renderStreet 85 = .ok (.aload_n 0, 1) := by decide +kernel
theorem dX7_renderStreet_86 : decode cX7_renderStreet 86 = .ok (.bipush 99, 2) := by decide +kernel
theorem dX7_renderStreet_88 : decode cX7_renderStreet 88 = .ok (.invokevirtual 186, 3) := by decide +kernel
theorem dX7_renderStreet_91 : decode cX7_renderStreet 91 = .ok (.aload_n 0, 1) := by decide +kernel
theorem dX7_renderStreet_92 : decode cX7_renderStreet 92 = .ok (.bipush 109, 2) := by decide +kernel
theorem dX7_renderStreet_94 : decode cX7_renderStreet 94 = .ok (.invokevirtual 186, 3) := by decide +kernel
theorem dX7_renderStreet_97 : decode cX7_renderStreet 97 = .ok (.aload_n 0, 1) := by decide +kernel
theorem dX7_renderStreet_98 : decode cX7_renderStreet 98 = .ok (.iload_n 1, 1) := by decide +kernel
theorem dX7_renderStreet_99 : decode cX7_renderStreet 99 = .ok (.invokevirtual 122, 3) := by decide +kernel
theorem dX7_renderStreet_102 : decode cX7_renderStreet 102 = .ok (.ifCond .eq 9, 3) := by decide +kernel
theorem dX7_renderStreet_105 : decode cX7_renderStreet 105 = .ok (.aload_n 0, 1) := by decide +kernel
theorem dX7_renderStreet_106 : decode cX7_renderStreet 106 = .ok (.bipush 42, 2) := by decide +kernel
theorem dX7_renderStreet_108 : decode cX7_renderStreet 108 = .ok (.invokevirtual 186, 3) := by decide +kernel
theorem dX7_renderStreet_111 : decode cX7_renderStreet 111 = .ok (.aload_n 0, 1) := by decide +kernel
theorem dX7_renderStreet_112 : decode cX7_renderStreet 112 = .ok (.getfield 180, 3) := by decide +kernel
theorem dX7_renderStreet_115 : decode cX7_renderStreet 115 = .ok (.ireturn, 1) := by decide +kernel
theorem dX7_renderQueue_0 : decode cX7_renderQueue 0 = .ok (.aload_n 0, 1) := by decide +kernel
theorem dX7_renderQueue_1 : decode cX7_renderQueue 1 = .ok (.aload_n 0, 1) := by decide +kernel
theorem dX7_renderQueue_2 : decode cX7_renderQueue 2 = .ok (.iload_n 1, 1) := by decide +kernel
theorem dX7_renderQueue_3 : decode cX7_renderQueue 3 = .ok (.invokevirtual 107, 3) := by decide +kernel
theorem dX7_renderQueue_6 : decode cX7_renderQueue 6 = .ok (.ifCond .ne 7, 3) := by decide +kernel
theorem dX7_renderQueue_9 : decode cX7_renderQueue 9 = .ok (.iconst 1, 1) := by decide +kernel
theorem dX7_renderQueue_10 : decode cX7_renderQueue 10 = .ok (.goto 4, 3) := by decide +kernel
theorem dX7_renderQueue_13 : decode cX7_renderQueue 13 = .ok (.iconst 0, 1) := by decide +kernel
theorem dX7_renderQueue_14 : decode cX7_renderQueue 14 = .ok (.iconst 1, 1) := by decide +kernel
theorem dX7_renderQueue_15 : decode cX7_renderQueue 15 = .ok (.invokevirtual 79, 3) := by decide +kernel
theorem dX7_renderQueue_18 : decode cX7_renderQueue 18 = .ok (.ifCond .eq 5, 3) := by decide +kernel
theorem dX7_renderQueue_21 : decode cX7_renderQueue 21 = .ok (.iconst 0, 1) := by decide +kernel
theorem dX7_renderQueue_22 : decode cX7_renderQueue 22 = .ok (.ireturn, 1) := by decide +kernel
theorem dX7_renderQueue_23 : decode cX7_renderQueue 23 = .ok (.aload_n 0, 1) := by decide +kernel
theorem dX7_renderQueue_24 : decode cX7_renderQueue 24 = .ok (.iconst 0, 1) := by decide +kernel
theorem dX7_renderQueue_25 : decode cX7_renderQueue 25 = .ok (.putfield 180, 3) := by decide +kernel
theorem dX7_renderQueue_28 : decode cX7_renderQueue 28 = .ok (.iconst 0, 1) := by decide +kernel
theorem dX7_renderQueue_29 : decode cX7_renderQueue 29 = .ok (.istore_n 2, 1) := by decide +kernel
theorem dX7_renderQueue_30 : decode cX7_renderQueue 30 = .ok (.iload_n 2, 1) := by decide +kernel
theorem dX7_renderQueue_31 : decode cX7_renderQueue 31 = .ok (.aload_n 0, 1) := by decide +kernel
theorem dX7_renderQueue_32 : decode cX7_renderQueue 32 = .ok (.iload_n 1, 1) := by decide +kernel
theorem dX7_renderQueue_33 : decode cX7_renderQueue 33 = .ok (.iconst 3, 1) := by decide +kernel
theorem dX7_renderQueue_34 : decode cX7_renderQueue 34 = .ok (.invokevirtual 113, 3) := by decide +kernel
theorem dX7_renderQueue_37 : decode cX7_renderQueue 37 = .ok (.if_icmp .ge 31, 3) := by decide +kernel
theorem dX7_renderQueue_40 : decode cX7_renderQueue 40 = .ok (.iload_n 2, 1) := by decide +kernel
theorem dX7_renderQueue_41 : decode cX7_renderQueue 41 = .ok (.ifCond .le 9, 3) := by decide +kernel
theorem dX7_renderQueue_44 : decode cX7_renderQueue 44 = .ok (.aload_n 0, 1) := by decide +kernel
theorem dX7_renderQueue_45 : decode cX7_renderQueue 45 = .ok (.bipush 44, 2) := by decide +kernel
theorem dX7_renderQueue_47 : decode cX7_renderQueue 47 = .ok (.invokevirtual 186, 3) := by decide +kernel
theorem dX7_renderQueue_50 : decode cX7_renderQueue 50 = .ok (.aload_n 0, 1) := by decide +kernel
theorem dX7_renderQueue_51 : decode cX7_renderQueue 51 = .ok (.aload_n 0, 1) := by decide +kernel
theorem dX7_renderQueue_52 : decode cX7_renderQueue 52 = .ok (.iload_n 1, 1) := by decide +kernel
theorem dX7_renderQueue_53 : decode cX7_renderQueue 53 = .ok (.iconst 4, 1) := by decide +kernel
theorem dX7_renderQueue_54 : decode cX7_renderQueue 54 = .ok (.iload_n 2, 1) := by decide +kernel
theorem dX7_renderQueue_55 : decode cX7_renderQueue 55 = .ok (.iadd, 1) := by decide +kernel
theorem dX7_renderQueue_56 : decode cX7_renderQueue 56 = .ok (.invokevirtual 113, 3) := by decide +kernel
theorem dX7_renderQueue_59 : decode cX7_renderQueue 59 = .ok (.invokevirtual 183, 3) := by decide +kernel
theorem dX7_renderQueue_62 : decode cX7_renderQueue 62 = .ok (.iinc 2 1, 3) := by decide +kernel
theorem dX7_renderQueue_65 : decode cX7_renderQueue 65 = .ok (.goto (-35), 3) := by decide +kernel
theorem dX7_renderQueue_68 : decode cX7_renderQueue 68 = .ok (.aload_n 0, 1) := by decide +kernel
theorem dX7_renderQueue_69 : decode cX7_renderQueue 69 = .ok (.getfield 180, 3) := by decide +kernel
theorem dX7_renderQueue_72 : decode cX7_renderQueue 72 = .ok (.ireturn, 1) := by decide +kernel
theorem dX7_outputAt_0 : decode cX7_outputAt 0 = .ok (.aload_n 0, 1) := by decide +kernel
theorem dX7_outputAt_1 : decode cX7_outputAt 1 = .ok (.iload_n 1, 1) := by decide +kernel
theorem dX7_outputAt_2 : decode cX7_outputAt 2 = .ok (.iconst 0, 1) := by decide +kernel
theorem dX7_outputAt_3 : decode cX7_outputAt 3 = .ok (.aload_n 0, 1) := by decide +kernel
theorem dX7_outputAt_4 : decode cX7_outputAt 4 = .ok (.getfield 180, 3) := by decide +kernel
theorem dX7_outputAt_7 : decode cX7_outputAt 7 = .ok (.iconst 1, 1) := by decide +kernel
theorem dX7_outputAt_8 : decode cX7_outputAt 8 = .ok (.isub, 1) := by decide +kernel
theorem dX7_outputAt_9 : decode cX7_outputAt 9 = .ok (.invokestatic 57, 3) := by decide +kernel
theorem dX7_outputAt_12 : decode cX7_outputAt 12 = .ok (.ifCond .ne 7, 3) := by decide +kernel
theorem dX7_outputAt_15 : decode cX7_outputAt 15 = .ok (.iconst 1, 1) := by decide +kernel
theorem dX7_outputAt_16 : decode cX7_outputAt 16 = .ok (.goto 4, 3) := by decide +kernel
theorem dX7_outputAt_19 : decode cX7_outputAt 19 = .ok (.iconst 0, 1) := by decide +kernel
theorem dX7_outputAt_20 : decode cX7_outputAt 20 = .ok (.iconst 1, 1) := by decide +kernel
theorem dX7_outputAt_21 : decode cX7_outputAt 21 = .ok (.invokevirtual 79, 3) := by decide +kernel
theorem dX7_outputAt_24 : decode cX7_outputAt 24 = .ok (.ifCond .eq 7, 3) := by decide +kernel
theorem dX7_outputAt_27 : decode cX7_outputAt 27 = .ok (.iconst 0, 1) := by decide +kernel
theorem dX7_outputAt_28 : decode cX7_outputAt 28 = .ok (.goto 10, 3) := by decide +kernel
theorem dX7_outputAt_31 : decode cX7_outputAt 31 = .ok (.aload_n 0, 1) := by decide +kernel
theorem dX7_outputAt_32 : decode cX7_outputAt 32 = .ok (.getfield 38, 3) := by decide +kernel
theorem dX7_outputAt_35 : decode cX7_outputAt 35 = .ok (.iload_n 1, 1) := by decide +kernel
theorem dX7_outputAt_36 : decode cX7_outputAt 36 = .ok (.iaload, 1) := by decide +kernel
theorem dX7_outputAt_37 : decode cX7_outputAt 37 = .ok (.i2c, 1) := by decide +kernel
theorem dX7_outputAt_38 : decode cX7_outputAt 38 = .ok (.ireturn, 1) := by decide +kernel
theorem dX7_type_0 : decode cX7_type 0 = .ok (.aload_n 0, 1) := by decide +kernel
theorem dX7_type_1 : decode cX7_type 1 = .ok (.iload_n 1, 1) := by decide +kernel
theorem dX7_type_2 : decode cX7_type 2 = .ok (.bipush 32, 2) := by decide +kernel
theorem dX7_type_4 : decode cX7_type 4 = .ok (.bipush 126, 2) := by decide +kernel
theorem dX7_type_6 : decode cX7_type 6 = .ok (.invokestatic 57, 3) := by decide +kernel
theorem dX7_type_9 : decode cX7_type 9 = .ok (.ifCond .ne 7, 3) := by decide +kernel
theorem dX7_type_12 : decode cX7_type 12 = .ok (.iconst 1, 1) := by decide +kernel
theorem dX7_type_13 : decode cX7_type 13 = .ok (.goto 4, 3) := by decide +kernel
theorem dX7_type_16 : decode cX7_type 16 = .ok (.iconst 0, 1) := by decide +kernel
theorem dX7_type_17 : decode cX7_type 17 = .ok (.iconst 1, 1) := by decide +kernel
theorem dX7_type_18 : decode cX7_type 18 = .ok (.invokevirtual 79, 3) := by decide +kernel
theorem dX7_type_21 : decode cX7_type 21 = .ok (.ifCond .ne 25, 3) := by decide +kernel
theorem dX7_type_24 : decode cX7_type 24 = .ok (.aload_n 0, 1) := by decide +kernel
theorem dX7_type_25 : decode cX7_type 25 = .ok (.aload_n 0, 1) := by decide +kernel
theorem dX7_type_26 : decode cX7_type 26 = .ok (.getfield 189, 3) := by decide +kernel
theorem dX7_type_29 : decode cX7_type 29 = .ok (.bipush 60, 2) := by decide +kernel
theorem dX7_type_31 : decode cX7_type 31 = .ok (.if_icmp .ne 7, 3) := by decide +kernel
theorem dX7_type_34 : decode cX7_type 34 = .ok (.iconst 1, 1) := by decide +kernel
theorem dX7_type_35 : decode cX7_type 35 = .ok (.goto 4, 3) := by decide +kernel
theorem dX7_type_38 : decode cX7_type 38 = .ok (.iconst 0, 1) := by decide +kernel
theorem dX7_type_39 : decode cX7_type 39 = .ok (.iconst 2, 1) := by decide +kernel
theorem dX7_type_40 : decode cX7_type 40 = .ok (.invokevirtual 79, 3) := by decide +kernel
theorem dX7_type_43 : decode cX7_type 43 = .ok (.ifCond .eq 5, 3) := by decide +kernel
theorem dX7_type_46 : decode cX7_type 46 = .ok (.iconst 0, 1) := by decide +kernel
theorem dX7_type_47 : decode cX7_type 47 = .ok (.ireturn, 1) := by decide +kernel
theorem dX7_type_48 : decode cX7_type 48 = .ok (.aload_n 0, 1) := by decide +kernel
theorem dX7_type_49 : decode cX7_type 49 = .ok (.getfield 41, 3) := by decide +kernel
theorem dX7_type_52 : decode cX7_type 52 = .ok (.aload_n 0, 1) := by decide +kernel
theorem dX7_type_53 : decode cX7_type 53 = .ok (.getfield 189, 3) := by decide +kernel
theorem dX7_type_56 : decode cX7_type 56 = .ok (.iload_n 1, 1) := by decide +kernel
theorem dX7_type_57 : decode cX7_type 57 = .ok (.iastore, 1) := by decide +kernel
theorem dX7_type_58 : decode cX7_type 58 = .ok (.aload_n 0, 1) := by decide +kernel
theorem dX7_type_59 : decode cX7_type 59 = .ok (.dup, 1) := by decide +kernel
theorem dX7_type_60 : decode cX7_type 60 = .ok (.getfield 189, 3) := by decide +kernel
theorem dX7_type_63 : decode cX7_type 63 = .ok (.iconst 1, 1) := by decide +kernel
theorem dX7_type_64 : decode cX7_type 64 = .ok (.iadd, 1) := by decide +kernel
theorem dX7_type_65 : decode cX7_type 65 = .ok (.putfield 189, 3) := by decide +kernel
theorem dX7_type_68 : decode cX7_type 68 = .ok (.aload_n 0, 1) := by decide +kernel
theorem dX7_type_69 : decode cX7_type 69 = .ok (.getfield 189, 3) := by decide +kernel
theorem dX7_type_72 : decode cX7_type 72 = .ok (.ireturn, 1) := by decide +kernel
theorem dX7_sign_0 : decode cX7_sign 0 = .ok (.aload_n 0, 1) := by decide +kernel
theorem dX7_sign_1 : decode cX7_sign 1 = .ok (.getfield 192, 3) := by decide +kernel
theorem dX7_sign_4 : decode cX7_sign 4 = .ok (.aload_n 0, 1) := by decide +kernel
theorem dX7_sign_5 : decode cX7_sign 5 = .ok (.getfield 189, 3) := by decide +kernel
theorem dX7_sign_8 : decode cX7_sign 8 = .ok (.if_icmp .ge 15, 3) := by decide +kernel
theorem dX7_sign_11 : decode cX7_sign 11 = .ok (.aload_n 0, 1) := by decide +kernel
theorem dX7_sign_12 : decode cX7_sign 12 = .ok (.getfield 41, 3) := by decide +kernel
theorem dX7_sign_15 : decode cX7_sign 15 = .ok (.aload_n 0, 1) := by decide +kernel
theorem dX7_sign_16 : decode cX7_sign 16 = .ok (.getfield 192, 3) := by decide +kernel
theorem dX7_sign_19 : decode cX7_sign 19 = .ok (.iaload, 1) := by decide +kernel
theorem dX7_sign_20 : decode cX7_sign 20 = .ok (.goto 4, 3) := by decide +kernel
theorem dX7_sign_23 : decode cX7_sign 23 = .ok (.iconst (-1), 1) := by decide +kernel
theorem dX7_sign_24 : decode cX7_sign 24 = .ok (.ireturn, 1) := by decide +kernel
theorem dX7_isSign_0 : decode cX7_isSign 0 = .ok (.aload_n 0, 1) := by decide +kernel
theorem dX7_isSign_1 : decode cX7_isSign 1 = .ok (.invokevirtual 195, 3) := by decide +kernel
theorem dX7_isSign_4 : decode cX7_isSign 4 = .ok (.iload_n 1, 1) := by decide +kernel
theorem dX7_isSign_5 : decode cX7_isSign 5 = .ok (.if_icmp .ne 7, 3) := by decide +kernel
theorem dX7_isSign_8 : decode cX7_isSign 8 = .ok (.iconst 1, 1) := by decide +kernel
theorem dX7_isSign_9 : decode cX7_isSign 9 = .ok (.goto 4, 3) := by decide +kernel
theorem dX7_isSign_12 : decode cX7_isSign 12 = .ok (.iconst 0, 1) := by decide +kernel
theorem dX7_isSign_13 : decode cX7_isSign 13 = .ok (.istore_n 2, 1) := by decide +kernel
theorem dX7_isSign_14 : decode cX7_isSign 14 = .ok (.aload_n 0, 1) := by decide +kernel
theorem dX7_isSign_15 : decode cX7_isSign 15 = .ok (.dup, 1) := by decide +kernel
theorem dX7_isSign_16 : decode cX7_isSign 16 = .ok (.getfield 192, 3) := by decide +kernel
theorem dX7_isSign_19 : decode cX7_isSign 19 = .ok (.iload_n 2, 1) := by decide +kernel
theorem dX7_isSign_20 : decode cX7_isSign 20 = .ok (.ifCond .eq 7, 3) := by decide +kernel
theorem dX7_isSign_23 : decode cX7_isSign 23 = .ok (.iconst 1, 1) := by decide +kernel
theorem dX7_isSign_24 : decode cX7_isSign 24 = .ok (.goto 4, 3) := by decide +kernel
theorem dX7_isSign_27 : decode cX7_isSign 27 = .ok (.iconst 0, 1) := by decide +kernel
theorem dX7_isSign_28 : decode cX7_isSign 28 = .ok (.iadd, 1) := by decide +kernel
theorem dX7_isSign_29 : decode cX7_isSign 29 = .ok (.putfield 192, 3) := by decide +kernel
theorem dX7_isSign_32 : decode cX7_isSign 32 = .ok (.iload_n 2, 1) := by decide +kernel
theorem dX7_isSign_33 : decode cX7_isSign 33 = .ok (.ireturn, 1) := by decide +kernel
theorem dX7_isNumber_0 : decode cX7_isNumber 0 = .ok (.iconst 0, 1) := by decide +kernel
theorem dX7_isNumber_1 : decode cX7_isNumber 1 = .ok (.istore_n 3, 1) := by decide +kernel
theorem dX7_isNumber_2 : decode cX7_isNumber 2 = .ok (.iconst 0, 1) := by decide +kernel
theorem dX7_isNumber_3 : decode cX7_isNumber 3 = .ok (.istore 4, 2) := by decide +kernel
theorem dX7_isNumber_5 : decode cX7_isNumber 5 = .ok (.iload 4, 2) := by decide +kernel
theorem dX7_isNumber_7 : decode cX7_isNumber 7 = .ok (.iload_n 1, 1) := by decide +kernel
theorem dX7_isNumber_8 : decode cX7_isNumber 8 = .ok (.if_icmp .ge 46, 3) := by decide +kernel
theorem dX7_isNumber_11 : decode cX7_isNumber 11 = .ok (.aload_n 0, 1) := by decide +kernel
theorem dX7_isNumber_12 : decode cX7_isNumber 12 = .ok (.invokevirtual 195, 3) := by decide +kernel
theorem dX7_isNumber_15 : decode cX7_isNumber 15 = .ok (.bipush 48, 2) := by decide +kernel
theorem dX7_isNumber_17 : decode cX7_isNumber 17 = .ok (.bipush 57, 2) := by decide +kernel
theorem dX7_isNumber_19 : decode cX7_isNumber 19 = .ok (.invokestatic 57, 3) := by decide +kernel
theorem dX7_isNumber_22 : decode cX7_isNumber 22 = .ok (.ifCond .eq 32, 3) := by decide +kernel
theorem dX7_isNumber_25 : decode cX7_isNumber 25 = .ok (.bipush 10, 2) := by decide +kernel
theorem dX7_isNumber_27 : decode cX7_isNumber 27 = .ok (.iload_n 3, 1) := by decide +kernel
theorem dX7_isNumber_28 : decode cX7_isNumber 28 = .ok (.imul, 1) := by decide +kernel
theorem dX7_isNumber_29 : decode cX7_isNumber 29 = .ok (.aload_n 0, 1) := by decide +kernel
theorem dX7_isNumber_30 : decode cX7_isNumber 30 = .ok (.invokevirtual 195, 3) := by decide +kernel
theorem dX7_isNumber_33 : decode cX7_isNumber 33 = .ok (.iadd, 1) := by decide +kernel
theorem dX7_isNumber_34 : decode cX7_isNumber 34 = .ok (.bipush 48, 2) := by decide +kernel
theorem dX7_isNumber_36 : decode cX7_isNumber 36 = .ok (.isub, 1) := by decide +kernel
theorem dX7_isNumber_37 : decode cX7_isNumber 37 = .ok (.istore_n 3, 1) := by decide +kernel
theorem dX7_isNumber_38 : decode cX7_isNumber 38 = .ok (.aload_n 0, 1) := by decide +kernel
theorem dX7_isNumber_39 : decode cX7_isNumber 39 = .ok (.dup, 1) := by decide +kernel
theorem dX7_isNumber_40 : decode cX7_isNumber 40 = .ok (.getfield 192, 3) := by decide +kernel
theorem dX7_isNumber_43 : decode cX7_isNumber 43 = .ok (.iconst 1, 1) := by decide +kernel
theorem dX7_isNumber_44 : decode cX7_isNumber 44 = .ok (.iadd, 1) := by decide +kernel
theorem dX7_isNumber_45 : decode cX7_isNumber 45 = .ok (.putfield 192, 3) := by decide +kernel
theorem dX7_isNumber_48 : decode cX7_isNumber 48 = .ok (.iinc 4 1, 3) := by decide +kernel
theorem dX7_isNumber_51 : decode cX7_isNumber 51 = .ok (.goto (-46), 3) := by decide +kernel
theorem dX7_isNumber_54 : decode cX7_isNumber 54 = .ok (.aload_n 0, 1) := by decide +kernel
theorem dX7_isNumber_55 : decode cX7_isNumber 55 = .ok (.getfield 44, 3) := by decide +kernel
theorem dX7_isNumber_58 : decode cX7_isNumber 58 = .ok (.iload_n 2, 1) := by decide +kernel
theorem dX7_isNumber_59 : decode cX7_isNumber 59 = .ok (.iload_n 3, 1) := by decide +kernel
theorem dX7_isNumber_60 : decode cX7_isNumber 60 = .ok (.iastore, 1) := by decide +kernel
theorem dX7_isNumber_61 : decode cX7_isNumber 61 = .ok (.iload 4, 2) := by decide +kernel
theorem dX7_isNumber_63 : decode cX7_isNumber 63 = .ok (.ifCond .le 7, 3) := by decide +kernel
theorem dX7_isNumber_66 : decode cX7_isNumber 66 = .ok (.iconst 1, 1) := by decide +kernel
theorem dX7_isNumber_67 : decode cX7_isNumber 67 = .ok (.goto 4, 3) := by decide +kernel
theorem dX7_isNumber_70 : decode cX7_isNumber 70 = .ok (.iconst 0, 1) := by decide +kernel
theorem dX7_isNumber_71 : decode cX7_isNumber 71 = .ok (.ireturn, 1) := by decide +kernel
theorem dX7_isWord_0 : decode cX7_isWord 0 = .ok (.iconst 0, 1) := by decide +kernel
theorem dX7_isWord_1 : decode cX7_isWord 1 = .ok (.istore_n 2, 1) := by decide +kernel
theorem dX7_isWord_2 : decode cX7_isWord 2 = .ok (.iload_n 2, 1) := by decide +kernel
theorem dX7_isWord_3 : decode cX7_isWord 3 = .ok (.aload_n 1, 1) := by decide +kernel
theorem dX7_isWord_4 : decode cX7_isWord 4 = .ok (.invokevirtual 199, 3) := by decide +kernel
theorem dX7_isWord_7 : decode cX7_isWord 7 = .ok (.if_icmp .ge 23, 3) := by decide +kernel
theorem dX7_isWord_10 : decode cX7_isWord 10 = .ok (.aload_n 0, 1) := by decide +kernel
theorem dX7_isWord_11 : decode cX7_isWord 11 = .ok (.aload_n 1, 1) := by decide +kernel
theorem dX7_isWord_12 : decode cX7_isWord 12 = .ok (.iload_n 2, 1) := by decide +kernel
theorem dX7_isWord_13 : decode cX7_isWord 13 = .ok (.invokevirtual 204, 3) := by decide +kernel
theorem dX7_isWord_16 : decode cX7_isWord 16 = .ok (.invokevirtual 208, 3) := by decide +kernel
theorem dX7_isWord_19 : decode cX7_isWord 19 = .ok (.ifCond .ne 5, 3) := by decide +kernel
theorem dX7_isWord_22 : decode cX7_isWord 22 = .ok (.iconst 0, 1) := by decide +kernel
theorem dX7_isWord_23 : decode cX7_isWord 23 = .ok (.ireturn, 1) := by decide +kernel
theorem dX7_isWord_24 : decode cX7_isWord 24 = .ok (.iinc 2 1, 3) := by decide +kernel
theorem dX7_isWord_27 : decode cX7_isWord 27 = .ok (.goto (-25), 3) := by decide +kernel
theorem dX7_isWord_30 : decode cX7_isWord 30 = .ok (.iconst 1, 1) := by decide +kernel
theorem dX7_isWord_31 : decode cX7_isWord 31 = .ok (.ireturn, 1) := by decide +kernel
theorem dX7_isClass_0 : decode cX7_isClass 0 = .ok (.aload_n 0, 1) := by decide +kernel
theorem dX7_isClass_1 : decode cX7_isClass 1 = .ok (.getfield 44, 3) := by decide +kernel
theorem dX7_isClass_4 : decode cX7_isClass 4 = .ok (.iload_n 1, 1) := by decide +kernel
theorem dX7_isClass_5 : decode cX7_isClass 5 = .ok (.aload_n 0, 1) := by decide +kernel
theorem dX7_isClass_6 : decode cX7_isClass 6 = .ok (.invokevirtual 195, 3) := by decide +kernel
theorem dX7_isClass_9 : decode cX7_isClass 9 = .ok (.iastore, 1) := by decide +kernel
theorem dX7_isClass_10 : decode cX7_isClass 10 = .ok (.aload_n 0, 1) := by decide +kernel
theorem dX7_isClass_11 : decode cX7_isClass 11 = .ok (.bipush 97, 2) := by decide +kernel
theorem dX7_isClass_13 : decode cX7_isClass 13 = .ok (.invokevirtual 208, 3) := by decide +kernel
theorem dX7_isClass_16 : decode cX7_isClass 16 = .ok (.ifCond .ne 21, 3) := by decide +kernel
theorem dX7_isClass_19 : decode cX7_isClass 19 = .ok (.aload_n 0, 1) := by decide +kernel
theorem dX7_isClass_20 : decode cX7_isClass 20 = .ok (.bipush 98, 2) := by decide +kernel
theorem dX7_isClass_22 : decode cX7_isClass 22 = .ok (.invokevirtual 208, 3) := by decide +kernel
theorem dX7_isClass_25 : decode cX7_isClass 25 = .ok (.ifCond .ne 12, 3) := by decide +kernel
theorem dX7_isClass_28 : decode cX7_isClass 28 = .ok (.aload_n 0, 1) := by decide +kernel
theorem dX7_isClass_29 : decode cX7_isClass 29 = .ok (.bipush 99, 2) := by decide +kernel
theorem dX7_isClass_31 : decode cX7_isClass 31 = .ok (.invokevirtual 208, 3) := by decide +kernel
theorem dX7_isClass_34 : decode cX7_isClass 34 = .ok (.ifCond .eq 7, 3) := by decide +kernel
theorem dX7_isClass_37 : decode cX7_isClass 37 = .ok (.iconst 1, 1) := by decide +kernel
theorem dX7_isClass_38 : decode cX7_isClass 38 = .ok (.goto 4, 3) := by decide +kernel
theorem dX7_isClass_41 : decode cX7_isClass 41 = .ok (.iconst 0, 1) := by decide +kernel
theorem dX7_isClass_42 : decode cX7_isClass 42 = .ok (.ireturn, 1) := by decide +kernel
theorem dX7_readsS_0 : decode cX7_readsS 0 = .ok (.aload_n 0, 1) := by decide +kernel
theorem dX7_readsS_1 : decode cX7_readsS 1 = .ok (.bipush 116, 2) := by decide +kernel
theorem dX7_readsS_3 : decode cX7_readsS 3 = .ok (.invokevirtual 208, 3) := by decide +kernel
theorem dX7_readsS_6 : decode cX7_readsS 6 = .ok (.ifCond .eq 79, 3) := by decide +kernel
theorem dX7_readsS_9 : decode cX7_readsS 9 = .ok (.aload_n 0, 1) := by decide +kernel
theorem dX7_readsS_10 : decode cX7_readsS 10 = .ok (.ldc 211, 2) := by decide +kernel
theorem dX7_readsS_12 : decode cX7_readsS 12 = .ok (.invokevirtual 213, 3) := by decide +kernel
theorem dX7_readsS_15 : decode cX7_readsS 15 = .ok (.ifCond .eq 68, 3) := by decide +kernel
theorem dX7_readsS_18 : decode cX7_readsS 18 = .ok (.aload_n 0, 1) := by decide +kernel
theorem dX7_readsS_19 : decode cX7_readsS 19 = .ok (.iconst 1, 1) := by decide +kernel
theorem dX7_readsS_20 : decode cX7_readsS 20 = .ok (.iload_n 1, 1) := by decide +kernel
theorem dX7_readsS_21 : decode cX7_readsS 21 = .ok (.iconst 1, 1) := by decide +kernel
theorem dX7_readsS_22 : decode cX7_readsS 22 = .ok (.iadd, 1) := by decide +kernel
theorem dX7_readsS_23 : decode cX7_readsS 23 = .ok (.invokevirtual 217, 3) := by decide +kernel
theorem dX7_readsS_26 : decode cX7_readsS 26 = .ok (.ifCond .eq 57, 3) := by decide +kernel
theorem dX7_readsS_29 : decode cX7_readsS 29 = .ok (.aload_n 0, 1) := by decide +kernel
theorem dX7_readsS_30 : decode cX7_readsS 30 = .ok (.bipush 32, 2) := by decide +kernel
theorem dX7_readsS_32 : decode cX7_readsS 32 = .ok (.invokevirtual 208, 3) := by decide +kernel
theorem dX7_readsS_35 : decode cX7_readsS 35 = .ok (.ifCond .eq 48, 3) := by decide +kernel
theorem dX7_readsS_38 : decode cX7_readsS 38 = .ok (.aload_n 0, 1) := by decide +kernel
theorem dX7_readsS_39 : decode cX7_readsS 39 = .ok (.iconst 1, 1) := by decide +kernel
theorem dX7_readsS_40 : decode cX7_readsS 40 = .ok (.iload_n 1, 1) := by decide +kernel
theorem dX7_readsS_41 : decode cX7_readsS 41 = .ok (.iconst 2, 1) := by decide +kernel
theorem dX7_readsS_42 : decode cX7_readsS 42 = .ok (.iadd, 1) := by decide +kernel
theorem dX7_readsS_43 : decode cX7_readsS 43 = .ok (.invokevirtual 217, 3) := by decide +kernel
theorem dX7_readsS_46 : decode cX7_readsS 46 = .ok (.ifCond .eq 37, 3) := by decide +kernel
theorem dX7_readsS_49 : decode cX7_readsS 49 = .ok (.aload_n 0, 1) := by decide +kernel
theorem dX7_readsS_50 : decode cX7_readsS 50 = .ok (.bipush 32, 2) := by decide +kernel
theorem dX7_readsS_52 : decode cX7_readsS 52 = .ok (.invokevirtual 208, 3) := by decide +kernel
theorem dX7_readsS_55 : decode cX7_readsS 55 = .ok (.ifCond .eq 28, 3) := by decide +kernel
theorem dX7_readsS_58 : decode cX7_readsS 58 = .ok (.aload_n 0, 1) := by decide +kernel
theorem dX7_readsS_59 : decode cX7_readsS 59 = .ok (.iload_n 1, 1) := by decide +kernel
theorem dX7_readsS_60 : decode cX7_readsS 60 = .ok (.iconst 3, 1) := by decide +kernel
theorem dX7_readsS_61 : decode cX7_readsS 61 = .ok (.iadd, 1) := by decide +kernel
theorem dX7_readsS_62 : decode cX7_readsS 62 = .ok (.invokevirtual 220, 3) := by decide +kernel
theorem dX7_readsS_65 : decode cX7_readsS 65 = .ok (.ifCond .eq 18, 3) := by decide +kernel
theorem dX7_readsS_68 : decode cX7_readsS 68 = .ok (.aload_n 0, 1) := by decide +kernel
theorem dX7_readsS_69 : decode cX7_readsS 69 = .ok (.iconst 1, 1) := by decide +kernel
theorem dX7_readsS_70 : decode cX7_readsS 70 = .ok (.iload_n 1, 1) := by decide +kernel
theorem dX7_readsS_71 : decode cX7_readsS 71 = .ok (.iconst 4, 1) := by decide +kernel
theorem dX7_readsS_72 : decode cX7_readsS 72 = .ok (.iadd, 1) := by decide +kernel
theorem dX7_readsS_73 : decode cX7_readsS 73 = .ok (.invokevirtual 217, 3) := by decide +kernel
theorem dX7_readsS_76 : decode cX7_readsS 76 = .ok (.ifCond .eq 7, 3) := by decide +kernel
theorem dX7_readsS_79 : decode cX7_readsS 79 = .ok (.iconst 1, 1) := by decide +kernel
theorem dX7_readsS_80 : decode cX7_readsS 80 = .ok (.goto 4, 3) := by decide +kernel
theorem dX7_readsS_83 : decode cX7_readsS 83 = .ok (.iconst 0, 1) := by decide +kernel
theorem dX7_readsS_84 : decode cX7_readsS 84 = .ok (.ireturn, 1) := by decide +kernel
theorem dX7_readsS_85 : decode cX7_readsS 85 = .ok (.aload_n 0, 1) := by decide +kernel
theorem dX7_readsS_86 : decode cX7_readsS 86 = .ok (.bipush 97, 2) := by decide +kernel
theorem dX7_readsS_88 : decode cX7_readsS 88 = .ok (.invokevirtual 208, 3) := by decide +kernel
theorem dX7_readsS_91 : decode cX7_readsS 91 = .ok (.ifCond .eq 37, 3) := by decide +kernel
theorem dX7_readsS_94 : decode cX7_readsS 94 = .ok (.aload_n 0, 1) := by decide +kernel
theorem dX7_readsS_95 : decode cX7_readsS 95 = .ok (.getfield 44, 3) := by decide +kernel
theorem dX7_readsS_98 : decode cX7_readsS 98 = .ok (.iload_n 1, 1) := by decide +kernel
theorem dX7_readsS_99 : decode cX7_readsS 99 = .ok (.bipush 83, 2) := by decide +kernel
theorem dX7_readsS_101 : decode cX7_readsS 101 = .ok (.iastore, 1) := by decide +kernel
theorem dX7_readsS_102 : decode cX7_readsS 102 = .ok (.aload_n 0, 1) := by decide +kernel
theorem dX7_readsS_103 : decode cX7_readsS 103 = .ok (.ldc 223, 2) := by decide +kernel
theorem dX7_readsS_105 : decode cX7_readsS 105 = .ok (.invokevirtual 213, 3) := by decide +kernel
theorem dX7_readsS_108 : decode cX7_readsS 108 = .ok (.ifCond .eq 18, 3) := by decide +kernel
theorem dX7_readsS_111 : decode cX7_readsS 111 = .ok (.aload_n 0, 1) := by decide +kernel
theorem dX7_readsS_112 : decode cX7_readsS 112 = .ok (.iconst 3, 1) := by decide +kernel
theorem dX7_readsS_113 : decode cX7_readsS 113 = .ok (.iload_n 1, 1) := by decide +kernel
theorem dX7_readsS_114 : decode cX7_readsS 114 = .ok (.iconst 1, 1) := by decide +kernel
theorem dX7_readsS_115 : decode cX7_readsS 115 = .ok (.iadd, 1) := by decide +kernel
theorem dX7_readsS_116 : decode cX7_readsS 116 = .ok (.invokevirtual 217, 3) := by decide +kernel
theorem dX7_readsS_119 : decode cX7_readsS 119 = .ok (.ifCond .eq 7, 3) := by decide +kernel
theorem dX7_readsS_122 : decode cX7_readsS 122 = .ok (.iconst 1, 1) := by decide +kernel
theorem dX7_readsS_123 : decode cX7_readsS 123 = .ok (.goto 4, 3) := by decide +kernel
theorem dX7_readsS_126 : decode cX7_readsS 126 = .ok (.iconst 0, 1) := by decide +kernel
theorem dX7_readsS_127 : decode cX7_readsS 127 = .ok (.ireturn, 1) := by decide +kernel
theorem dX7_readsS_128 : decode cX7_readsS 128 = .ok (.aload_n 0, 1) := by decide +kernel
theorem dX7_readsS_129 : decode cX7_readsS 129 = .ok (.getfield 44, 3) := by decide +kernel
theorem dX7_readsS_132 : decode cX7_readsS 132 = .ok (.iload_n 1, 1) := by decide +kernel
theorem dX7_readsS_133 : decode cX7_readsS 133 = .ok (.bipush 110, 2) := by decide +kernel
theorem dX7_readsS_135 : decode cX7_readsS 135 = .ok (.iastore, 1) := by decide +kernel
theorem dX7_readsS_136 : decode cX7_readsS 136 = .ok (.aload_n 0, 1) := by decide +kernel
theorem dX7_readsS_137 : decode cX7_readsS 137 = .ok (.ldc 225, 2) := by decide +kernel
theorem dX7_readsS_139 : decode cX7_readsS 139 = .ok (.invokevirtual 213, 3) := by decide +kernel
theorem dX7_readsS_142 : decode cX7_readsS 142 = .ok (.ifCond .eq 18, 3) := by decide +kernel
theorem dX7_readsS_145 : decode cX7_readsS 145 = .ok (.aload_n 0, 1) := by decide +kernel
theorem dX7_readsS_146 : decode cX7_readsS 146 = .ok (.iconst 1, 1) := by decide +kernel
theorem dX7_readsS_147 : decode cX7_readsS 147 = .ok (.iload_n 1, 1) := by decide +kernel
theorem dX7_readsS_148 : decode cX7_readsS 148 = .ok (.iconst 1, 1) := by decide +kernel
theorem dX7_readsS_149 : decode cX7_readsS 149 = .ok (.iadd, 1) := by decide +kernel
theorem dX7_readsS_150 : decode cX7_readsS 150 = .ok (.invokevirtual 217, 3) := by decide +kernel
theorem dX7_readsS_153 : decode cX7_readsS 153 = .ok (.ifCond .eq 7, 3) := by decide +kernel
theorem dX7_readsS_156 : decode cX7_readsS 156 = .ok (.iconst 1, 1) := by decide +kernel
theorem dX7_readsS_157 : decode cX7_readsS 157 = .ok (.goto 4, 3) := by decide +kernel
theorem dX7_readsS_160 : decode cX7_readsS 160 = .ok (.iconst 0, 1) := by decide +kernel
theorem dX7_readsS_161 : decode cX7_readsS 161 = .ok (.ireturn, 1) := by decide +kernel
theorem dX7_readsW_0 : decode cX7_readsW 0 = .ok (.aload_n 0, 1) := by decide +kernel
theorem dX7_readsW_1 : decode cX7_readsW 1 = .ok (.bipush 105, 2) := by decide +kernel
theorem dX7_readsW_3 : decode cX7_readsW 3 = .ok (.invokevirtual 208, 3) := by decide +kernel
theorem dX7_readsW_6 : decode cX7_readsW 6 = .ok (.ifCond .eq 29, 3) := by decide +kernel
theorem dX7_readsW_9 : decode cX7_readsW 9 = .ok (.aload_n 0, 1) := by decide +kernel
theorem dX7_readsW_10 : decode cX7_readsW 10 = .ok (.ldc 227, 2) := by decide +kernel
theorem dX7_readsW_12 : decode cX7_readsW 12 = .ok (.invokevirtual 213, 3) := by decide +kernel
theorem dX7_readsW_15 : decode cX7_readsW 15 = .ok (.ifCond .eq 18, 3) := by decide +kernel
theorem dX7_readsW_18 : decode cX7_readsW 18 = .ok (.aload_n 0, 1) := by decide +kernel
theorem dX7_readsW_19 : decode cX7_readsW 19 = .ok (.iconst 1, 1) := by decide +kernel
theorem dX7_readsW_20 : decode cX7_readsW 20 = .ok (.iload_n 1, 1) := by decide +kernel
theorem dX7_readsW_21 : decode cX7_readsW 21 = .ok (.iconst 1, 1) := by decide +kernel
theorem dX7_readsW_22 : decode cX7_readsW 22 = .ok (.iadd, 1) := by decide +kernel
theorem dX7_readsW_23 : decode cX7_readsW 23 = .ok (.invokevirtual 217, 3) := by decide +kernel
theorem dX7_readsW_26 : decode cX7_readsW 26 = .ok (.ifCond .eq 7, 3) := by decide +kernel
theorem dX7_readsW_29 : decode cX7_readsW 29 = .ok (.iconst 1, 1) := by decide +kernel
theorem dX7_readsW_30 : decode cX7_readsW 30 = .ok (.goto 4, 3) := by decide +kernel
theorem dX7_readsW_33 : decode cX7_readsW 33 = .ok (.iconst 0, 1) := by decide +kernel
theorem dX7_readsW_34 : decode cX7_readsW 34 = .ok (.ireturn, 1) := by decide +kernel
theorem dX7_readsW_35 : decode cX7_readsW 35 = .ok (.aload_n 0, 1) := by decide +kernel
theorem dX7_readsW_36 : decode cX7_readsW 36 = .ok (.getfield 44, 3) := by decide +kernel
theorem dX7_readsW_39 : decode cX7_readsW 39 = .ok (.iload_n 1, 1) := by decide +kernel
theorem dX7_readsW_40 : decode cX7_readsW 40 = .ok (.bipush 116, 2) := by decide +kernel
theorem dX7_readsW_42 : decode cX7_readsW 42 = .ok (.iastore, 1) := by decide +kernel
theorem dX7_readsW_43 : decode cX7_readsW 43 = .ok (.aload_n 0, 1) := by decide +kernel
theorem dX7_readsW_44 : decode cX7_readsW 44 = .ok (.ldc 229, 2) := by decide +kernel
theorem dX7_readsW_46 : decode cX7_readsW 46 = .ok (.invokevirtual 213, 3) := by decide +kernel
theorem dX7_readsW_49 : decode cX7_readsW 49 = .ok (.ifCond .eq 18, 3) := by decide +kernel
theorem dX7_readsW_52 : decode cX7_readsW 52 = .ok (.aload_n 0, 1) := by decide +kernel
theorem dX7_readsW_53 : decode cX7_readsW 53 = .ok (.iconst 3, 1) := by decide +kernel
theorem dX7_readsW_54 : decode cX7_readsW 54 = .ok (.iload_n 1, 1) := by decide +kernel
theorem dX7_readsW_55 : decode cX7_readsW 55 = .ok (.iconst 1, 1) := by decide +kernel
theorem dX7_readsW_56 : decode cX7_readsW 56 = .ok (.iadd, 1) := by decide +kernel
theorem dX7_readsW_57 : decode cX7_readsW 57 = .ok (.invokevirtual 217, 3) := by decide +kernel
theorem dX7_readsW_60 : decode cX7_readsW 60 = .ok (.ifCond .eq 7, 3) := by decide +kernel
theorem dX7_readsW_63 : decode cX7_readsW 63 = .ok (.iconst 1, 1) := by decide +kernel
theorem dX7_readsW_64 : decode cX7_readsW 64 = .ok (.goto 4, 3) := by decide +kernel
theorem dX7_readsW_67 : decode cX7_readsW 67 = .ok (.iconst 0, 1) := by decide +kernel
theorem dX7_readsW_68 : decode cX7_readsW 68 = .ok (.ireturn, 1) := by decide +kernel
theorem dX7_readsRest_0 : decode cX7_readsRest 0 = .ok (.iload_n 1, 1) := by decide +kernel
theorem dX7_readsRest_1 : decode cX7_readsRest 1 = .ok (.lookupswitch 161 #[(99, 135), (111, 89), (112, 63), (115, 51), (119, 57)], 51) := by decide +kernel
theorem dX7_readsRest_52 : decode cX7_readsRest 52 = .ok (.aload_n 0, 1) := by decide +kernel
theorem dX7_readsRest_53 : decode cX7_readsRest 53 = .ok (.iload_n 2, 1) := by decide +kernel
theorem dX7_readsRest_54 : decode cX7_readsRest 54 = .ok (.invokevirtual 231, 3) := by decide +kernel
theorem dX7_readsRest_57 : decode cX7_readsRest 57 = .ok (.ireturn, 1) := by decide +kernel
theorem dX7_readsRest_58 : decode cX7_readsRest 58 = .ok (.aload_n 0, 1) := by decide +kernel
theorem dX7_readsRest_59 : decode cX7_readsRest 59 = .ok (.iload_n 2, 1) := by decide +kernel
theorem dX7_readsRest_60 : decode cX7_readsRest 60 = .ok (.invokevirtual 234, 3) := by decide +kernel
theorem dX7_readsRest_63 : decode cX7_readsRest 63 = .ok (.ireturn, 1) := by decide +kernel
theorem dX7_readsRest_64 : decode cX7_readsRest 64 = .ok (.aload_n 0, 1) := by decide +kernel
theorem dX7_readsRest_65 : decode cX7_readsRest 65 = .ok (.ldc 237, 2) := by decide +kernel
theorem dX7_readsRest_67 : decode cX7_readsRest 67 = .ok (.invokevirtual 213, 3) := by decide +kernel
theorem dX7_readsRest_70 : decode cX7_readsRest 70 = .ok (.ifCond .eq 18, 3) := by decide +kernel
theorem dX7_readsRest_73 : decode cX7_readsRest 73 = .ok (.aload_n 0, 1) := by decide +kernel
theorem dX7_readsRest_74 : decode cX7_readsRest 74 = .ok (.iconst 1, 1) := by decide +kernel
theorem dX7_readsRest_75 : decode cX7_readsRest 75 = .ok (.iload_n 2, 1) := by decide +kernel
theorem dX7_readsRest_76 : decode cX7_readsRest 76 = .ok (.iconst 1, 1) := by decide +kernel
theorem dX7_readsRest_77 : decode cX7_readsRest 77 = .ok (.iadd, 1) := by decide +kernel
theorem dX7_readsRest_78 : decode cX7_readsRest 78 = .ok (.invokevirtual 217, 3) := by decide +kernel
theorem dX7_readsRest_81 : decode cX7_readsRest 81 = .ok (.ifCond .eq 7, 3) := by decide +kernel
theorem dX7_readsRest_84 : decode cX7_readsRest 84 = .ok (.iconst 1, 1) := by decide +kernel
theorem dX7_readsRest_85 : decode cX7_readsRest 85 = .ok (.goto 4, 3) := by decide +kernel
theorem dX7_readsRest_88 : decode cX7_readsRest 88 = .ok (.iconst 0, 1) := by decide +kernel
theorem dX7_readsRest_89 : decode cX7_readsRest 89 = .ok (.ireturn, 1) := by decide +kernel
theorem dX7_readsRest_90 : decode cX7_readsRest 90 = .ok (.aload_n 0, 1) := by decide +kernel
theorem dX7_readsRest_91 : decode cX7_readsRest 91 = .ok (.ldc 239, 2) := by decide +kernel
theorem dX7_readsRest_93 : decode cX7_readsRest 93 = .ok (.invokevirtual 213, 3) := by decide +kernel
theorem dX7_readsRest_96 : decode cX7_readsRest 96 = .ok (.ifCond .eq 38, 3) := by decide +kernel
theorem dX7_readsRest_99 : decode cX7_readsRest 99 = .ok (.aload_n 0, 1) := by decide +kernel
theorem dX7_readsRest_100 : decode cX7_readsRest 100 = .ok (.iconst 1, 1) := by decide +kernel
theorem dX7_readsRest_101 : decode cX7_readsRest 101 = .ok (.iload_n 2, 1) := by decide +kernel
theorem dX7_readsRest_102 : decode cX7_readsRest 102 = .ok (.iconst 1, 1) := by decide +kernel
theorem dX7_readsRest_103 : decode cX7_readsRest 103 = .ok (.iadd, 1) := by decide +kernel
theorem dX7_readsRest_104 : decode cX7_readsRest 104 = .ok (.invokevirtual 217, 3) := by decide +kernel
theorem dX7_readsRest_107 : decode cX7_readsRest 107 = .ok (.ifCond .eq 27, 3) := by decide +kernel
theorem dX7_readsRest_110 : decode cX7_readsRest 110 = .ok (.aload_n 0, 1) := by decide +kernel
theorem dX7_readsRest_111 : decode cX7_readsRest 111 = .ok (.bipush 32, 2) := by decide +kernel
theorem dX7_readsRest_113 : decode cX7_readsRest 113 = .ok (.invokevirtual 208, 3) := by decide +kernel
theorem dX7_readsRest_116 : decode cX7_readsRest 116 = .ok (.ifCond .eq 18, 3) := by decide +kernel
theorem dX7_readsRest_119 : decode cX7_readsRest 119 = .ok (.aload_n 0, 1) := by decide +kernel
theorem dX7_readsRest_120 : decode cX7_readsRest 120 = .ok (.iconst 3, 1) := by decide +kernel
theorem dX7_readsRest_121 : decode cX7_readsRest 121 = .ok (.iload_n 2, 1) := by decide +kernel
theorem dX7_readsRest_122 : decode cX7_readsRest 122 = .ok (.iconst 2, 1) := by decide +kernel
theorem dX7_readsRest_123 : decode cX7_readsRest 123 = .ok (.iadd, 1) := by decide +kernel
theorem dX7_readsRest_124 : decode cX7_readsRest 124 = .ok (.invokevirtual 217, 3) := by decide +kernel
theorem dX7_readsRest_127 : decode cX7_readsRest 127 = .ok (.ifCond .eq 7, 3) := by decide +kernel
theorem dX7_readsRest_130 : decode cX7_readsRest 130 = .ok (.iconst 1, 1) := by decide +kernel
theorem dX7_readsRest_131 : decode cX7_readsRest 131 = .ok (.goto 4, 3) := by decide +kernel
theorem dX7_readsRest_134 : decode cX7_readsRest 134 = .ok (.iconst 0, 1) := by decide +kernel
theorem dX7_readsRest_135 : decode cX7_readsRest 135 = .ok (.ireturn, 1) := by decide +kernel
theorem dX7_readsRest_136 : decode cX7_readsRest 136 = .ok (.aload_n 0, 1) := by decide +kernel
theorem dX7_readsRest_137 : decode cX7_readsRest 137 = .ok (.ldc 241, 2) := by decide +kernel
theorem dX7_readsRest_139 : decode cX7_readsRest 139 = .ok (.invokevirtual 213, 3) := by decide +kernel
theorem dX7_readsRest_142 : decode cX7_readsRest 142 = .ok (.ifCond .eq 18, 3) := by decide +kernel
theorem dX7_readsRest_145 : decode cX7_readsRest 145 = .ok (.aload_n 0, 1) := by decide +kernel
theorem dX7_readsRest_146 : decode cX7_readsRest 146 = .ok (.iconst 1, 1) := by decide +kernel
theorem dX7_readsRest_147 : decode cX7_readsRest 147 = .ok (.iload_n 2, 1) := by decide +kernel
theorem dX7_readsRest_148 : decode cX7_readsRest 148 = .ok (.iconst 1, 1) := by decide +kernel
theorem dX7_readsRest_149 : decode cX7_readsRest 149 = .ok (.iadd, 1) := by decide +kernel
theorem dX7_readsRest_150 : decode cX7_readsRest 150 = .ok (.invokevirtual 217, 3) := by decide +kernel
theorem dX7_readsRest_153 : decode cX7_readsRest 153 = .ok (.ifCond .eq 7, 3) := by decide +kernel
theorem dX7_readsRest_156 : decode cX7_readsRest 156 = .ok (.iconst 1, 1) := by decide +kernel
theorem dX7_readsRest_157 : decode cX7_readsRest 157 = .ok (.goto 4, 3) := by decide +kernel
theorem dX7_readsRest_160 : decode cX7_readsRest 160 = .ok (.iconst 0, 1) := by decide +kernel
theorem dX7_readsRest_161 : decode cX7_readsRest 161 = .ok (.ireturn, 1) := by decide +kernel
theorem dX7_readsRest_162 : decode cX7_readsRest 162 = .ok (.aload_n 0, 1) := by decide +kernel
theorem dX7_readsRest_163 : decode cX7_readsRest 163 = .ok (.ldc 243, 2) := by decide +kernel
theorem dX7_readsRest_165 : decode cX7_readsRest 165 = .ok (.invokevirtual 213, 3) := by decide +kernel
theorem dX7_readsRest_168 : decode cX7_readsRest 168 = .ok (.ifCond .eq 18, 3) := by decide +kernel
theorem dX7_readsRest_171 : decode cX7_readsRest 171 = .ok (.aload_n 0, 1) := by decide +kernel
theorem dX7_readsRest_172 : decode cX7_readsRest 172 = .ok (.iconst 3, 1) := by decide +kernel
theorem dX7_readsRest_173 : decode cX7_readsRest 173 = .ok (.iload_n 2, 1) := by decide +kernel
theorem dX7_readsRest_174 : decode cX7_readsRest 174 = .ok (.iconst 1, 1) := by decide +kernel
theorem dX7_readsRest_175 : decode cX7_readsRest 175 = .ok (.iadd, 1) := by decide +kernel
theorem dX7_readsRest_176 : decode cX7_readsRest 176 = .ok (.invokevirtual 217, 3) := by decide +kernel
theorem dX7_readsRest_179 : decode cX7_readsRest 179 = .ok (.ifCond .eq 7, 3) := by decide +kernel
theorem dX7_readsRest_182 : decode cX7_readsRest 182 = .ok (.iconst 1, 1) := by decide +kernel
theorem dX7_readsRest_183 : decode cX7_readsRest 183 = .ok (.goto 4, 3) := by decide +kernel
theorem dX7_readsRest_186 : decode cX7_readsRest 186 = .ok (.iconst 0, 1) := by decide +kernel
theorem dX7_readsRest_187 : decode cX7_readsRest 187 = .ok (.ireturn, 1) := by decide +kernel
theorem dX7_isFirst_0 : decode cX7_isFirst 0 = .ok (.iload_n 0, 1) := by decide +kernel
theorem dX7_isFirst_1 : decode cX7_isFirst 1 = .ok (.bipush 115, 2) := by decide +kernel
theorem dX7_isFirst_3 : decode cX7_isFirst 3 = .ok (.if_icmp .eq 33, 3) := by decide +kernel
theorem dX7_isFirst_6 : decode cX7_isFirst 6 = .ok (.iload_n 0, 1) := by decide +kernel
theorem dX7_isFirst_7 : decode cX7_isFirst 7 = .ok (.bipush 119, 2) := by decide +kernel
theorem dX7_isFirst_9 : decode cX7_isFirst 9 = .ok (.if_icmp .eq 27, 3) := by decide +kernel
theorem dX7_isFirst_12 : decode cX7_isFirst 12 = .ok (.iload_n 0, 1) := by decide +kernel
theorem dX7_isFirst_13 : decode cX7_isFirst 13 = .ok (.bipush 112, 2) := by decide +kernel
theorem dX7_isFirst_15 : decode cX7_isFirst 15 = .ok (.if_icmp .eq 21, 3) := by decide +kernel
theorem dX7_isFirst_18 : decode cX7_isFirst 18 = .ok (.iload_n 0, 1) := by decide +kernel
theorem dX7_isFirst_19 : decode cX7_isFirst 19 = .ok (.bipush 111, 2) := by decide +kernel
theorem dX7_isFirst_21 : decode cX7_isFirst 21 = .ok (.if_icmp .eq 15, 3) := by decide +kernel
theorem dX7_isFirst_24 : decode cX7_isFirst 24 = .ok (.iload_n 0, 1) := by decide +kernel
theorem dX7_isFirst_25 : decode cX7_isFirst 25 = .ok (.bipush 99, 2) := by decide +kernel
theorem dX7_isFirst_27 : decode cX7_isFirst 27 = .ok (.if_icmp .eq 9, 3) := by decide +kernel
theorem dX7_isFirst_30 : decode cX7_isFirst 30 = .ok (.iload_n 0, 1) := by decide +kernel
theorem dX7_isFirst_31 : decode cX7_isFirst 31 = .ok (.bipush 108, 2) := by decide +kernel
theorem dX7_isFirst_33 : decode cX7_isFirst 33 = .ok (.if_icmp .ne 7, 3) := by decide +kernel
theorem dX7_isFirst_36 : decode cX7_isFirst 36 = .ok (.iconst 1, 1) := by decide +kernel
theorem dX7_isFirst_37 : decode cX7_isFirst 37 = .ok (.goto 4, 3) := by decide +kernel
theorem dX7_isFirst_40 : decode cX7_isFirst 40 = .ok (.iconst 0, 1) := by decide +kernel
theorem dX7_isFirst_41 : decode cX7_isFirst 41 = .ok (.ireturn, 1) := by decide +kernel
theorem dX7_readsCommand_0 : decode cX7_readsCommand 0 = .ok (.iconst 5, 1) := by decide +kernel
theorem dX7_readsCommand_1 : decode cX7_readsCommand 1 = .ok (.aload_n 0, 1) := by decide +kernel
theorem dX7_readsCommand_2 : decode cX7_readsCommand 2 = .ok (.getfield 245, 3) := by decide +kernel
theorem dX7_readsCommand_5 : decode cX7_readsCommand 5 = .ok (.imul, 1) := by decide +kernel
theorem dX7_readsCommand_6 : decode cX7_readsCommand 6 = .ok (.istore_n 1, 1) := by decide +kernel
theorem dX7_readsCommand_7 : decode cX7_readsCommand 7 = .ok (.aload_n 0, 1) := by decide +kernel
theorem dX7_readsCommand_8 : decode cX7_readsCommand 8 = .ok (.invokevirtual 195, 3) := by decide +kernel
theorem dX7_readsCommand_11 : decode cX7_readsCommand 11 = .ok (.istore_n 2, 1) := by decide +kernel
theorem dX7_readsCommand_12 : decode cX7_readsCommand 12 = .ok (.iload_n 2, 1) := by decide +kernel
theorem dX7_readsCommand_13 : decode cX7_readsCommand 13 = .ok (.invokestatic 248, 3) := by decide +kernel
theorem dX7_readsCommand_16 : decode cX7_readsCommand 16 = .ok (.ifCond .ne 5, 3) := by decide +kernel
theorem dX7_readsCommand_19 : decode cX7_readsCommand 19 = .ok (.iconst 0, 1) := by decide +kernel
theorem dX7_readsCommand_20 : decode cX7_readsCommand 20 = .ok (.ireturn, 1) := by decide +kernel
theorem dX7_readsCommand_21 : decode cX7_readsCommand 21 = .ok (.aload_n 0, 1) := by decide +kernel
theorem dX7_readsCommand_22 : decode cX7_readsCommand 22 = .ok (.getfield 44, 3) := by decide +kernel
theorem dX7_readsCommand_25 : decode cX7_readsCommand 25 = .ok (.iload_n 1, 1) := by decide +kernel
theorem dX7_readsCommand_26 : decode cX7_readsCommand 26 = .ok (.iload_n 2, 1) := by decide +kernel
theorem dX7_readsCommand_27 : decode cX7_readsCommand 27 = .ok (.iastore, 1) := by decide +kernel
theorem dX7_readsCommand_28 : decode cX7_readsCommand 28 = .ok (.aload_n 0, 1) := by decide +kernel
theorem dX7_readsCommand_29 : decode cX7_readsCommand 29 = .ok (.dup, 1) := by decide +kernel
theorem dX7_readsCommand_30 : decode cX7_readsCommand 30 = .ok (.getfield 192, 3) := by decide +kernel
theorem dX7_readsCommand_33 : decode cX7_readsCommand 33 = .ok (.iconst 1, 1) := by decide +kernel
theorem dX7_readsCommand_34 : decode cX7_readsCommand 34 = .ok (.iadd, 1) := by decide +kernel
theorem dX7_readsCommand_35 : decode cX7_readsCommand 35 = .ok (.putfield 192, 3) := by decide +kernel
theorem dX7_readsCommand_38 : decode cX7_readsCommand 38 = .ok (.aload_n 0, 1) := by decide +kernel
theorem dX7_readsCommand_39 : decode cX7_readsCommand 39 = .ok (.dup, 1) := by decide +kernel
theorem dX7_readsCommand_40 : decode cX7_readsCommand 40 = .ok (.getfield 245, 3) := by decide +kernel
theorem dX7_readsCommand_43 : decode cX7_readsCommand 43 = .ok (.iconst 1, 1) := by decide +kernel
theorem dX7_readsCommand_44 : decode cX7_readsCommand 44 = .ok (.iadd, 1) := by decide +kernel
theorem dX7_readsCommand_45 : decode cX7_readsCommand 45 = .ok (.putfield 245, 3) := by decide +kernel
theorem dX7_readsCommand_48 : decode cX7_readsCommand 48 = .ok (.aload_n 0, 1) := by decide +kernel
theorem dX7_readsCommand_49 : decode cX7_readsCommand 49 = .ok (.iload_n 2, 1) := by decide +kernel
theorem dX7_readsCommand_50 : decode cX7_readsCommand 50 = .ok (.iload_n 1, 1) := by decide +kernel
theorem dX7_readsCommand_51 : decode cX7_readsCommand 51 = .ok (.invokevirtual 251, 3) := by decide +kernel
theorem dX7_readsCommand_54 : decode cX7_readsCommand 54 = .ok (.ireturn, 1) := by decide +kernel
theorem dX7_isScript_0 : decode cX7_isScript 0 = .ok (.aload_n 0, 1) := by decide +kernel
theorem dX7_isScript_1 : decode cX7_isScript 1 = .ok (.iconst 0, 1) := by decide +kernel
theorem dX7_isScript_2 : decode cX7_isScript 2 = .ok (.putfield 192, 3) := by decide +kernel
theorem dX7_isScript_5 : decode cX7_isScript 5 = .ok (.aload_n 0, 1) := by decide +kernel
theorem dX7_isScript_6 : decode cX7_isScript 6 = .ok (.iconst 0, 1) := by decide +kernel
theorem dX7_isScript_7 : decode cX7_isScript 7 = .ok (.putfield 245, 3) := by decide +kernel
theorem dX7_isScript_10 : decode cX7_isScript 10 = .ok (.aload_n 0, 1) := by decide +kernel
theorem dX7_isScript_11 : decode cX7_isScript 11 = .ok (.invokevirtual 254, 3) := by decide +kernel
theorem dX7_isScript_14 : decode cX7_isScript 14 = .ok (.istore_n 1, 1) := by decide +kernel
theorem dX7_isScript_15 : decode cX7_isScript 15 = .ok (.iload_n 1, 1) := by decide +kernel
theorem dX7_isScript_16 : decode cX7_isScript 16 = .ok (.ifCond .eq 20, 3) := by decide +kernel
theorem dX7_isScript_19 : decode cX7_isScript 19 = .ok (.aload_n 0, 1) := by decide +kernel
theorem dX7_isScript_20 : decode cX7_isScript 20 = .ok (.bipush 59, 2) := by decide +kernel
theorem dX7_isScript_22 : decode cX7_isScript 22 = .ok (.invokevirtual 208, 3) := by decide +kernel
theorem dX7_isScript_25 : decode cX7_isScript 25 = .ok (.ifCond .eq 11, 3) := by decide +kernel
theorem dX7_isScript_28 : decode cX7_isScript 28 = .ok (.aload_n 0, 1) := by decide +kernel
theorem dX7_isScript_29 : decode cX7_isScript 29 = .ok (.invokevirtual 254, 3) := by decide +kernel
theorem dX7_isScript_32 : decode cX7_isScript 32 = .ok (.istore_n 1, 1) := by decide +kernel
theorem dX7_isScript_33 : decode cX7_isScript 33 = .ok (.goto (-18), 3) := by decide +kernel
theorem dX7_isScript_36 : decode cX7_isScript 36 = .ok (.iload_n 1, 1) := by decide +kernel
theorem dX7_isScript_37 : decode cX7_isScript 37 = .ok (.ifCond .eq 18, 3) := by decide +kernel
theorem dX7_isScript_40 : decode cX7_isScript 40 = .ok (.aload_n 0, 1) := by decide +kernel
theorem dX7_isScript_41 : decode cX7_isScript 41 = .ok (.getfield 192, 3) := by decide +kernel
theorem dX7_isScript_44 : decode cX7_isScript 44 = .ok (.aload_n 0, 1) := by decide +kernel
theorem dX7_isScript_45 : decode cX7_isScript 45 = .ok (.getfield 189, 3) := by decide +kernel
theorem dX7_isScript_48 : decode cX7_isScript 48 = .ok (.if_icmp .ne 7, 3) := by decide +kernel
theorem dX7_isScript_51 : decode cX7_isScript 51 = .ok (.iconst 1, 1) := by decide +kernel
theorem dX7_isScript_52 : decode cX7_isScript 52 = .ok (.goto 4, 3) := by decide +kernel
theorem dX7_isScript_55 : decode cX7_isScript 55 = .ok (.iconst 0, 1) := by decide +kernel
theorem dX7_isScript_56 : decode cX7_isScript 56 = .ok (.ireturn, 1) := by decide +kernel
theorem dX7_does_0 : decode cX7_does 0 = .ok (.aload_n 0, 1) := by decide +kernel
theorem dX7_does_1 : decode cX7_does 1 = .ok (.getfield 44, 3) := by decide +kernel
theorem dX7_does_4 : decode cX7_does 4 = .ok (.iload_n 1, 1) := by decide +kernel
theorem dX7_does_5 : decode cX7_does 5 = .ok (.iconst 1, 1) := by decide +kernel
theorem dX7_does_6 : decode cX7_does 6 = .ok (.iadd, 1) := by decide +kernel
theorem dX7_does_7 : decode cX7_does 7 = .ok (.iaload, 1) := by decide +kernel
theorem dX7_does_8 : decode cX7_does 8 = .ok (.istore_n 2, 1) := by decide +kernel
theorem dX7_does_9 : decode cX7_does 9 = .ok (.aload_n 0, 1) := by decide +kernel
theorem dX7_does_10 : decode cX7_does 10 = .ok (.getfield 44, 3) := by decide +kernel
theorem dX7_does_13 : decode cX7_does 13 = .ok (.iload_n 1, 1) := by decide +kernel
theorem dX7_does_14 : decode cX7_does 14 = .ok (.iconst 2, 1) := by decide +kernel
theorem dX7_does_15 : decode cX7_does 15 = .ok (.iadd, 1) := by decide +kernel
theorem dX7_does_16 : decode cX7_does 16 = .ok (.iaload, 1) := by decide +kernel
theorem dX7_does_17 : decode cX7_does 17 = .ok (.istore_n 3, 1) := by decide +kernel
theorem dX7_does_18 : decode cX7_does 18 = .ok (.aload_n 0, 1) := by decide +kernel
theorem dX7_does_19 : decode cX7_does 19 = .ok (.getfield 44, 3) := by decide +kernel
theorem dX7_does_22 : decode cX7_does 22 = .ok (.iload_n 1, 1) := by decide +kernel
theorem dX7_does_23 : decode cX7_does 23 = .ok (.iaload, 1) := by decide +kernel
theorem dX7_does_24 : decode cX7_does 24 = .ok (.lookupswitch 144 #[(83, 99), (99, 138), (110, 105), (111, 131), (112, 125), (115, 76), (116, 119), (119, 112)], 76) := by decide +kernel
theorem dX7_does_100 : decode cX7_does 100 = .ok (.aload_n 0, 1) := by decide +kernel
theorem dX7_does_101 : decode cX7_does 101 = .ok (.iload_n 2, 1) := by decide +kernel
theorem dX7_does_102 : decode cX7_does 102 = .ok (.iload_n 3, 1) := by decide +kernel
theorem dX7_does_103 : decode cX7_does 103 = .ok (.aload_n 0, 1) := by decide +kernel
theorem dX7_does_104 : decode cX7_does 104 = .ok (.getfield 44, 3) := by decide +kernel
theorem dX7_does_107 : decode cX7_does 107 = .ok (.iload_n 1, 1) := by decide +kernel
theorem dX7_does_108 : decode cX7_does 108 = .ok (.iconst 3, 1) := by decide +kernel
theorem dX7_does_109 : decode cX7_does 109 = .ok (.iadd, 1) := by decide +kernel
theorem dX7_does_110 : decode cX7_does 110 = .ok (.iaload, 1) := by decide +kernel
theorem dX7_does_111 : decode cX7_does 111 = .ok (.aload_n 0, 1) := by decide +kernel
theorem dX7_does_112 : decode cX7_does 112 = .ok (.getfield 44, 3) := by decide +kernel
theorem dX7_does_115 : decode cX7_does 115 = .ok (.iload_n 1, 1) := by decide +kernel
theorem dX7_does_116 : decode cX7_does 116 = .ok (.iconst 4, 1) := by decide +kernel
theorem dX7_does_117 : decode cX7_does 117 = .ok (.iadd, 1) := by decide +kernel
theorem dX7_does_118 : decode cX7_does 118 = .ok (.iaload, 1) := by decide +kernel
theorem dX7_does_119 : decode cX7_does 119 = .ok (.invokevirtual 94, 3) := by decide +kernel
theorem dX7_does_122 : decode cX7_does 122 = .ok (.ireturn, 1) := by decide +kernel
theorem dX7_does_123 : decode cX7_does 123 = .ok (.aload_n 0, 1) := by decide +kernel
theorem dX7_does_124 : decode cX7_does 124 = .ok (.iload_n 2, 1) := by decide +kernel
theorem dX7_does_125 : decode cX7_does 125 = .ok (.invokevirtual 125, 3) := by decide +kernel
theorem dX7_does_128 : decode cX7_does 128 = .ok (.ireturn, 1) := by decide +kernel
theorem dX7_does_129 : decode cX7_does 129 = .ok (.aload_n 0, 1) := by decide +kernel
theorem dX7_does_130 : decode cX7_does 130 = .ok (.iconst 4, 1) := by decide +kernel
theorem dX7_does_131 : decode cX7_does 131 = .ok (.iload_n 2, 1) := by decide +kernel
theorem dX7_does_132 : decode cX7_does 132 = .ok (.invokevirtual 131, 3) := by decide +kernel
theorem dX7_does_135 : decode cX7_does 135 = .ok (.ireturn, 1) := by decide +kernel
theorem dX7_does_136 : decode cX7_does 136 = .ok (.aload_n 0, 1) := by decide +kernel
theorem dX7_does_137 : decode cX7_does 137 = .ok (.iconst 5, 1) := by decide +kernel
theorem dX7_does_138 : decode cX7_does 138 = .ok (.iload_n 2, 1) := by decide +kernel
theorem dX7_does_139 : decode cX7_does 139 = .ok (.invokevirtual 131, 3) := by decide +kernel
theorem dX7_does_142 : decode cX7_does 142 = .ok (.ireturn, 1) := by decide +kernel
theorem dX7_does_143 : decode cX7_does 143 = .ok (.aload_n 0, 1) := by decide +kernel
theorem dX7_does_144 : decode cX7_does 144 = .ok (.iload_n 2, 1) := by decide +kernel
theorem dX7_does_145 : decode cX7_does 145 = .ok (.invokevirtual 165, 3) := by decide +kernel
theorem dX7_does_148 : decode cX7_does 148 = .ok (.ireturn, 1) := by decide +kernel
theorem dX7_does_149 : decode cX7_does 149 = .ok (.aload_n 0, 1) := by decide +kernel
theorem dX7_does_150 : decode cX7_does 150 = .ok (.iload_n 2, 1) := by decide +kernel
theorem dX7_does_151 : decode cX7_does 151 = .ok (.invokevirtual 104, 3) := by decide +kernel
theorem dX7_does_154 : decode cX7_does 154 = .ok (.ireturn, 1) := by decide +kernel
theorem dX7_does_155 : decode cX7_does 155 = .ok (.aload_n 0, 1) := by decide +kernel
theorem dX7_does_156 : decode cX7_does 156 = .ok (.iload_n 2, 1) := by decide +kernel
theorem dX7_does_157 : decode cX7_does 157 = .ok (.iload_n 3, 1) := by decide +kernel
theorem dX7_does_158 : decode cX7_does 158 = .ok (.invokevirtual 116, 3) := by decide +kernel
theorem dX7_does_161 : decode cX7_does 161 = .ok (.ireturn, 1) := by decide +kernel
theorem dX7_does_162 : decode cX7_does 162 = .ok (.aload_n 0, 1) := by decide +kernel
theorem dX7_does_163 : decode cX7_does 163 = .ok (.iload_n 2, 1) := by decide +kernel
theorem dX7_does_164 : decode cX7_does 164 = .ok (.invokevirtual 119, 3) := by decide +kernel
theorem dX7_does_167 : decode cX7_does 167 = .ok (.ireturn, 1) := by decide +kernel
theorem dX7_does_168 : decode cX7_does 168 = .ok (.aload_n 0, 1) := by decide +kernel
theorem dX7_does_169 : decode cX7_does 169 = .ok (.iload_n 2, 1) := by decide +kernel
theorem dX7_does_170 : decode cX7_does 170 = .ok (.invokevirtual 128, 3) := by decide +kernel
theorem dX7_does_173 : decode cX7_does 173 = .ok (.ireturn, 1) := by decide +kernel
theorem dX7_runScript_0 : decode cX7_runScript 0 = .ok (.aload_n 0, 1) := by decide +kernel
theorem dX7_runScript_1 : decode cX7_runScript 1 = .ok (.invokevirtual 258, 3) := by decide +kernel
theorem dX7_runScript_4 : decode cX7_runScript 4 = .ok (.istore_n 1, 1) := by decide +kernel
theorem dX7_runScript_5 : decode cX7_runScript 5 = .ok (.aload_n 0, 1) := by decide +kernel
theorem dX7_runScript_6 : decode cX7_runScript 6 = .ok (.iconst 0, 1) := by decide +kernel
theorem dX7_runScript_7 : decode cX7_runScript 7 = .ok (.putfield 189, 3) := by decide +kernel
theorem dX7_runScript_10 : decode cX7_runScript 10 = .ok (.aload_n 0, 1) := by decide +kernel
theorem dX7_runScript_11 : decode cX7_runScript 11 = .ok (.iload_n 1, 1) := by decide +kernel
theorem dX7_runScript_12 : decode cX7_runScript 12 = .ok (.ifCond .ne 7, 3) := by decide +kernel
theorem dX7_runScript_15 : decode cX7_runScript 15 = .ok (.iconst 1, 1) := by decide +kernel
theorem dX7_runScript_16 : decode cX7_runScript 16 = .ok (.goto 4, 3) := by decide +kernel
theorem dX7_runScript_19 : decode cX7_runScript 19 = .ok (.iconst 0, 1) := by decide +kernel
theorem dX7_runScript_20 : decode cX7_runScript 20 = .ok (.iconst 1, 1) := by decide +kernel
theorem dX7_runScript_21 : decode cX7_runScript 21 = .ok (.invokevirtual 79, 3) := by decide +kernel
theorem dX7_runScript_24 : decode cX7_runScript 24 = .ok (.ifCond .eq 13, 3) := by decide +kernel
theorem dX7_runScript_27 : decode cX7_runScript 27 = .ok (.aload_n 0, 1) := by decide +kernel
theorem dX7_runScript_28 : decode cX7_runScript 28 = .ok (.aload_n 0, 1) := by decide +kernel
theorem dX7_runScript_29 : decode cX7_runScript 29 = .ok (.getfield 192, 3) := by decide +kernel
theorem dX7_runScript_32 : decode cX7_runScript 32 = .ok (.putfield 31, 3) := by decide +kernel
theorem dX7_runScript_35 : decode cX7_runScript 35 = .ok (.iconst 0, 1) := by decide +kernel
theorem dX7_runScript_36 : decode cX7_runScript 36 = .ok (.ireturn, 1) := by decide +kernel
theorem dX7_runScript_37 : decode cX7_runScript 37 = .ok (.aload_n 0, 1) := by decide +kernel
theorem dX7_runScript_38 : decode cX7_runScript 38 = .ok (.invokevirtual 91, 3) := by decide +kernel
theorem dX7_runScript_41 : decode cX7_runScript 41 = .ok (.iconst 0, 1) := by decide +kernel
theorem dX7_runScript_42 : decode cX7_runScript 42 = .ok (.istore_n 2, 1) := by decide +kernel
theorem dX7_runScript_43 : decode cX7_runScript 43 = .ok (.iload_n 2, 1) := by decide +kernel
theorem dX7_runScript_44 : decode cX7_runScript 44 = .ok (.aload_n 0, 1) := by decide +kernel
theorem dX7_runScript_45 : decode cX7_runScript 45 = .ok (.getfield 245, 3) := by decide +kernel
theorem dX7_runScript_48 : decode cX7_runScript 48 = .ok (.if_icmp .ge 57, 3) := by decide +kernel
theorem dX7_runScript_51 : decode cX7_runScript 51 = .ok (.aload_n 0, 1) := by decide +kernel
theorem dX7_runScript_52 : decode cX7_runScript 52 = .ok (.iconst 0, 1) := by decide +kernel
theorem dX7_runScript_53 : decode cX7_runScript 53 = .ok (.putfield 47, 3) := by decide +kernel
theorem dX7_runScript_56 : decode cX7_runScript 56 = .ok (.aload_n 0, 1) := by decide +kernel
theorem dX7_runScript_57 : decode cX7_runScript 57 = .ok (.aload_n 0, 1) := by decide +kernel
theorem dX7_runScript_58 : decode cX7_runScript 58 = .ok (.iconst 5, 1) := by decide +kernel
theorem dX7_runScript_59 : decode cX7_runScript 59 = .ok (.iload_n 2, 1) := by decide +kernel
theorem dX7_runScript_60 : decode cX7_runScript 60 = .ok (.imul, 1) := by decide +kernel
theorem dX7_runScript_61 : decode cX7_runScript 61 = .ok (.invokevirtual 261, 3) := by decide +kernel
theorem dX7_runScript_64 : decode cX7_runScript 64 = .ok (.putfield 162, 3) := by decide +kernel
theorem dX7_runScript_67 : decode cX7_runScript 67 = .ok (.aload_n 0, 1) := by decide +kernel
theorem dX7_runScript_68 : decode cX7_runScript 68 = .ok (.getfield 47, 3) := by decide +kernel
theorem dX7_runScript_71 : decode cX7_runScript 71 = .ok (.ifCond .eq 28, 3) := by decide +kernel
theorem dX7_runScript_74 : decode cX7_runScript 74 = .ok (.aload_n 0, 1) := by decide +kernel
theorem dX7_runScript_75 : decode cX7_runScript 75 = .ok (.getfield 13, 3) := by decide +kernel
theorem dX7_runScript_78 : decode cX7_runScript 78 = .ok (.iconst 0, 1) := by decide +kernel
theorem dX7_runScript_79 : decode cX7_runScript 79 = .ok (.aload_n 0, 1) := by decide +kernel
theorem dX7_runScript_80 : decode cX7_runScript 80 = .ok (.getfield 9, 3) := by decide +kernel
theorem dX7_runScript_83 : decode cX7_runScript 83 = .ok (.iconst 0, 1) := by decide +kernel
theorem dX7_runScript_84 : decode cX7_runScript 84 = .ok (.invokestatic 50, 3) := by decide +kernel
theorem dX7_runScript_87 : decode cX7_runScript 87 = .ok (.aload_n 0, 1) := by decide +kernel
theorem dX7_runScript_88 : decode cX7_runScript 88 = .ok (.iload_n 2, 1) := by decide +kernel
theorem dX7_runScript_89 : decode cX7_runScript 89 = .ok (.putfield 35, 3) := by decide +kernel
theorem dX7_runScript_92 : decode cX7_runScript 92 = .ok (.aload_n 0, 1) := by decide +kernel
theorem dX7_runScript_93 : decode cX7_runScript 93 = .ok (.iconst 2, 1) := by decide +kernel
theorem dX7_runScript_94 : decode cX7_runScript 94 = .ok (.putfield 47, 3) := by decide +kernel
theorem dX7_runScript_97 : decode cX7_runScript 97 = .ok (.iconst 0, 1) := by decide +kernel
theorem dX7_runScript_98 : decode cX7_runScript 98 = .ok (.ireturn, 1) := by decide +kernel
theorem dX7_runScript_99 : decode cX7_runScript 99 = .ok (.iinc 2 1, 3) := by decide +kernel
theorem dX7_runScript_102 : decode cX7_runScript 102 = .ok (.goto (-59), 3) := by decide +kernel
theorem dX7_runScript_105 : decode cX7_runScript 105 = .ok (.aload_n 0, 1) := by decide +kernel
theorem dX7_runScript_106 : decode cX7_runScript 106 = .ok (.aload_n 0, 1) := by decide +kernel
theorem dX7_runScript_107 : decode cX7_runScript 107 = .ok (.getfield 245, 3) := by decide +kernel
theorem dX7_runScript_110 : decode cX7_runScript 110 = .ok (.invokevirtual 98, 3) := by decide +kernel
theorem dX7_runScript_113 : decode cX7_runScript 113 = .ok (.ireturn, 1) := by decide +kernel
theorem dX7_errorPosition_0 : decode cX7_errorPosition 0 = .ok (.aload_n 0, 1) := by decide +kernel
theorem dX7_errorPosition_1 : decode cX7_errorPosition 1 = .ok (.aload_n 0, 1) := by decide +kernel
theorem dX7_errorPosition_2 : decode cX7_errorPosition 2 = .ok (.getfield 31, 3) := by decide +kernel
theorem dX7_errorPosition_5 : decode cX7_errorPosition 5 = .ok (.ifCond .ge 7, 3) := by decide +kernel
theorem dX7_errorPosition_8 : decode cX7_errorPosition 8 = .ok (.iconst 1, 1) := by decide +kernel
theorem dX7_errorPosition_9 : decode cX7_errorPosition 9 = .ok (.goto 4, 3) := by decide +kernel
theorem dX7_errorPosition_12 : decode cX7_errorPosition 12 = .ok (.iconst 0, 1) := by decide +kernel
theorem dX7_errorPosition_13 : decode cX7_errorPosition 13 = .ok (.iconst 1, 1) := by decide +kernel
theorem dX7_errorPosition_14 : decode cX7_errorPosition 14 = .ok (.invokevirtual 79, 3) := by decide +kernel
theorem dX7_errorPosition_17 : decode cX7_errorPosition 17 = .ok (.ifCond .eq 7, 3) := by decide +kernel
theorem dX7_errorPosition_20 : decode cX7_errorPosition 20 = .ok (.iconst 0, 1) := by decide +kernel
theorem dX7_errorPosition_21 : decode cX7_errorPosition 21 = .ok (.goto 7, 3) := by decide +kernel
theorem dX7_errorPosition_24 : decode cX7_errorPosition 24 = .ok (.aload_n 0, 1) := by decide +kernel
theorem dX7_errorPosition_25 : decode cX7_errorPosition 25 = .ok (.getfield 31, 3) := by decide +kernel
theorem dX7_errorPosition_28 : decode cX7_errorPosition 28 = .ok (.ireturn, 1) := by decide +kernel
theorem dX7_failedCommand_0 : decode cX7_failedCommand 0 = .ok (.aload_n 0, 1) := by decide +kernel
theorem dX7_failedCommand_1 : decode cX7_failedCommand 1 = .ok (.aload_n 0, 1) := by decide +kernel
theorem dX7_failedCommand_2 : decode cX7_failedCommand 2 = .ok (.getfield 35, 3) := by decide +kernel
theorem dX7_failedCommand_5 : decode cX7_failedCommand 5 = .ok (.ifCond .ge 7, 3) := by decide +kernel
theorem dX7_failedCommand_8 : decode cX7_failedCommand 8 = .ok (.iconst 1, 1) := by decide +kernel
theorem dX7_failedCommand_9 : decode cX7_failedCommand 9 = .ok (.goto 4, 3) := by decide +kernel
theorem dX7_failedCommand_12 : decode cX7_failedCommand 12 = .ok (.iconst 0, 1) := by decide +kernel
theorem dX7_failedCommand_13 : decode cX7_failedCommand 13 = .ok (.iconst 1, 1) := by decide +kernel
theorem dX7_failedCommand_14 : decode cX7_failedCommand 14 = .ok (.invokevirtual 79, 3) := by decide +kernel
theorem dX7_failedCommand_17 : decode cX7_failedCommand 17 = .ok (.ifCond .eq 7, 3) := by decide +kernel
theorem dX7_failedCommand_20 : decode cX7_failedCommand 20 = .ok (.iconst 0, 1) := by decide +kernel
theorem dX7_failedCommand_21 : decode cX7_failedCommand 21 = .ok (.goto 7, 3) := by decide +kernel
theorem dX7_failedCommand_24 : decode cX7_failedCommand 24 = .ok (.aload_n 0, 1) := by decide +kernel
theorem dX7_failedCommand_25 : decode cX7_failedCommand 25 = .ok (.getfield 35, 3) := by decide +kernel
theorem dX7_failedCommand_28 : decode cX7_failedCommand 28 = .ok (.ireturn, 1) := by decide +kernel
theorem dX7_undo_0 : decode cX7_undo 0 = .ok (.aload_n 0, 1) := by decide +kernel
theorem dX7_undo_1 : decode cX7_undo 1 = .ok (.aload_n 0, 1) := by decide +kernel
theorem dX7_undo_2 : decode cX7_undo 2 = .ok (.getfield 54, 3) := by decide +kernel
theorem dX7_undo_5 : decode cX7_undo 5 = .ok (.ifCond .ne 7, 3) := by decide +kernel
theorem dX7_undo_8 : decode cX7_undo 8 = .ok (.iconst 1, 1) := by decide +kernel
theorem dX7_undo_9 : decode cX7_undo 9 = .ok (.goto 4, 3) := by decide +kernel
theorem dX7_undo_12 : decode cX7_undo 12 = .ok (.iconst 0, 1) := by decide +kernel
theorem dX7_undo_13 : decode cX7_undo 13 = .ok (.iconst 1, 1) := by decide +kernel
theorem dX7_undo_14 : decode cX7_undo 14 = .ok (.invokevirtual 79, 3) := by decide +kernel
theorem dX7_undo_17 : decode cX7_undo 17 = .ok (.ifCond .eq 5, 3) := by decide +kernel
theorem dX7_undo_20 : decode cX7_undo 20 = .ok (.iconst 0, 1) := by decide +kernel
theorem dX7_undo_21 : decode cX7_undo 21 = .ok (.ireturn, 1) := by decide +kernel
theorem dX7_undo_22 : decode cX7_undo 22 = .ok (.aload_n 0, 1) := by decide +kernel
theorem dX7_undo_23 : decode cX7_undo 23 = .ok (.dup, 1) := by decide +kernel
theorem dX7_undo_24 : decode cX7_undo 24 = .ok (.getfield 54, 3) := by decide +kernel
theorem dX7_undo_27 : decode cX7_undo 27 = .ok (.iconst 1, 1) := by decide +kernel
theorem dX7_undo_28 : decode cX7_undo 28 = .ok (.isub, 1) := by decide +kernel
theorem dX7_undo_29 : decode cX7_undo 29 = .ok (.putfield 54, 3) := by decide +kernel
theorem dX7_undo_32 : decode cX7_undo 32 = .ok (.aload_n 0, 1) := by decide +kernel
theorem dX7_undo_33 : decode cX7_undo 33 = .ok (.getfield 22, 3) := by decide +kernel
theorem dX7_undo_36 : decode cX7_undo 36 = .ok (.sipush 130, 3) := by decide +kernel
theorem dX7_undo_39 : decode cX7_undo 39 = .ok (.aload_n 0, 1) := by decide +kernel
theorem dX7_undo_40 : decode cX7_undo 40 = .ok (.getfield 54, 3) := by decide +kernel
theorem dX7_undo_43 : decode cX7_undo 43 = .ok (.imul, 1) := by decide +kernel
theorem dX7_undo_44 : decode cX7_undo 44 = .ok (.aload_n 0, 1) := by decide +kernel
theorem dX7_undo_45 : decode cX7_undo 45 = .ok (.getfield 9, 3) := by decide +kernel
theorem dX7_undo_48 : decode cX7_undo 48 = .ok (.iconst 0, 1) := by decide +kernel
theorem dX7_undo_49 : decode cX7_undo 49 = .ok (.invokestatic 50, 3) := by decide +kernel
theorem dX7_undo_52 : decode cX7_undo 52 = .ok (.aload_n 0, 1) := by decide +kernel
theorem dX7_undo_53 : decode cX7_undo 53 = .ok (.getfield 54, 3) := by decide +kernel
theorem dX7_undo_56 : decode cX7_undo 56 = .ok (.ireturn, 1) := by decide +kernel
theorem dX7_save_0 : decode cX7_save 0 = .ok (.aload_n 0, 1) := by decide +kernel
theorem dX7_save_1 : decode cX7_save 1 = .ok (.iconst 0, 1) := by decide +kernel
theorem dX7_save_2 : decode cX7_save 2 = .ok (.putfield 47, 3) := by decide +kernel
theorem dX7_save_5 : decode cX7_save 5 = .ok (.aload_n 0, 1) := by decide +kernel
theorem dX7_save_6 : decode cX7_save 6 = .ok (.getfield 9, 3) := by decide +kernel
theorem dX7_save_9 : decode cX7_save 9 = .ok (.iconst 0, 1) := by decide +kernel
theorem dX7_save_10 : decode cX7_save 10 = .ok (.aload_n 0, 1) := by decide +kernel
theorem dX7_save_11 : decode cX7_save 11 = .ok (.getfield 19, 3) := by decide +kernel
theorem dX7_save_14 : decode cX7_save 14 = .ok (.iconst 0, 1) := by decide +kernel
theorem dX7_save_15 : decode cX7_save 15 = .ok (.invokestatic 50, 3) := by decide +kernel
theorem dX7_save_18 : decode cX7_save 18 = .ok (.aload_n 0, 1) := by decide +kernel
theorem dX7_save_19 : decode cX7_save 19 = .ok (.iconst 1, 1) := by decide +kernel
