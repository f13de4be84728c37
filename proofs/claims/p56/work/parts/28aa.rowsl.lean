theorem dL_cell_0 : decode cL_cell 0 = .ok (.ldc 7, 2) := by decide +kernel
theorem dL_cell_2 : decode cL_cell 2 = .ok (.iload_n 1, 1) := by decide +kernel
theorem dL_cell_3 : decode cL_cell 3 = .ok (.aload_n 0, 1) := by decide +kernel
theorem dL_cell_4 : decode cL_cell 4 = .ok (.arraylength, 1) := by decide +kernel
theorem dL_cell_5 : decode cL_cell 5 = .ok (.if_icmp .ge 9, 3) := by decide +kernel
theorem dL_cell_8 : decode cL_cell 8 = .ok (.aload_n 0, 1) := by decide +kernel
theorem dL_cell_9 : decode cL_cell 9 = .ok (.iload_n 1, 1) := by decide +kernel
theorem dL_cell_10 : decode cL_cell 10 = .ok (.iaload, 1) := by decide +kernel
theorem dL_cell_11 : decode cL_cell 11 = .ok (.goto 4, 3) := by decide +kernel
theorem dL_cell_14 : decode cL_cell 14 = .ok (.iconst 0, 1) := by decide +kernel
theorem dL_cell_15 : decode cL_cell 15 = .ok (.sipush 1009, 3) := by decide +kernel
theorem dL_cell_18 : decode cL_cell 18 = .ok (.iload_n 1, 1) := by decide +kernel
theorem dL_cell_19 : decode cL_cell 19 = .ok (.imul, 1) := by decide +kernel
theorem dL_cell_20 : decode cL_cell 20 = .ok (.iadd, 1) := by decide +kernel
theorem dL_cell_21 : decode cL_cell 21 = .ok (.imul, 1) := by decide +kernel
theorem dL_cell_22 : decode cL_cell 22 = .ok (.sipush 12345, 3) := by decide +kernel
theorem dL_cell_25 : decode cL_cell 25 = .ok (.iadd, 1) := by decide +kernel
theorem dL_cell_26 : decode cL_cell 26 = .ok (.istore_n 2, 1) := by decide +kernel
theorem dL_cell_27 : decode cL_cell 27 = .ok (.iload_n 2, 1) := by decide +kernel
theorem dL_cell_28 : decode cL_cell 28 = .ok (.iload_n 2, 1) := by decide +kernel
theorem dL_cell_29 : decode cL_cell 29 = .ok (.bipush 13, 2) := by decide +kernel
theorem dL_cell_31 : decode cL_cell 31 = .ok (.iushr, 1) := by decide +kernel
theorem dL_cell_32 : decode cL_cell 32 = .ok (.ixor, 1) := by decide +kernel
theorem dL_cell_33 : decode cL_cell 33 = .ok (.ldc 8, 2) := by decide +kernel
theorem dL_cell_35 : decode cL_cell 35 = .ok (.imul, 1) := by decide +kernel
theorem dL_cell_36 : decode cL_cell 36 = .ok (.istore_n 2, 1) := by decide +kernel
theorem dL_cell_37 : decode cL_cell 37 = .ok (.iload_n 2, 1) := by decide +kernel
theorem dL_cell_38 : decode cL_cell 38 = .ok (.iload_n 2, 1) := by decide +kernel
theorem dL_cell_39 : decode cL_cell 39 = .ok (.bipush 16, 2) := by decide +kernel
theorem dL_cell_41 : decode cL_cell 41 = .ok (.iushr, 1) := by decide +kernel
theorem dL_cell_42 : decode cL_cell 42 = .ok (.ixor, 1) := by decide +kernel
theorem dL_cell_43 : decode cL_cell 43 = .ok (.ireturn, 1) := by decide +kernel
theorem dL_addStreet_0 : decode cL_addStreet 0 = .ok (.aload_n 0, 1) := by decide +kernel
theorem dL_addStreet_1 : decode cL_addStreet 1 = .ok (.iload_n 1, 1) := by decide +kernel
theorem dL_addStreet_2 : decode cL_addStreet 2 = .ok (.iload_n 2, 1) := by decide +kernel
theorem dL_addStreet_3 : decode cL_addStreet 3 = .ok (.iload_n 3, 1) := by decide +kernel
theorem dL_addStreet_4 : decode cL_addStreet 4 = .ok (.iload 4, 2) := by decide +kernel
theorem dL_addStreet_6 : decode cL_addStreet 6 = .ok (.invokevirtual 9, 3) := by decide +kernel
theorem dL_addStreet_9 : decode cL_addStreet 9 = .ok (.ireturn, 1) := by decide +kernel
theorem dL_addStreet_10 : decode cL_addStreet 10 = .ok (.astore 5, 2) := by decide +kernel
theorem dL_addStreet_12 : decode cL_addStreet 12 = .ok (.ldc 17, 2) := by decide +kernel
theorem dL_addStreet_14 : decode cL_addStreet 14 = .ok (.ireturn, 1) := by decide +kernel
theorem dL_addStreet_15 : decode cL_addStreet 15 = .ok (.astore 5, 2) := by decide +kernel
theorem dL_addStreet_17 : decode cL_addStreet 17 = .ok (.ldc 20, 2) := by decide +kernel
theorem dL_addStreet_19 : decode cL_addStreet 19 = .ok (.ireturn, 1) := by decide +kernel
theorem dL_addStreet_20 : decode cL_addStreet 20 = .ok (.astore 5, 2) := by decide +kernel
theorem dL_addStreet_22 : decode cL_addStreet 22 = .ok (.ldc 23, 2) := by decide +kernel
theorem dL_addStreet_24 : decode cL_addStreet 24 = .ok (.ireturn, 1) := by decide +kernel
theorem dL_addPlough_0 : decode cL_addPlough 0 = .ok (.aload_n 0, 1) := by decide +kernel
theorem dL_addPlough_1 : decode cL_addPlough 1 = .ok (.iload_n 1, 1) := by decide +kernel
theorem dL_addPlough_2 : decode cL_addPlough 2 = .ok (.invokevirtual 24, 3) := by decide +kernel
theorem dL_addPlough_5 : decode cL_addPlough 5 = .ok (.ireturn, 1) := by decide +kernel
theorem dL_addPlough_6 : decode cL_addPlough 6 = .ok (.astore_n 2, 1) := by decide +kernel
theorem dL_addPlough_7 : decode cL_addPlough 7 = .ok (.ldc 17, 2) := by decide +kernel
theorem dL_addPlough_9 : decode cL_addPlough 9 = .ok (.ireturn, 1) := by decide +kernel
theorem dL_addPlough_10 : decode cL_addPlough 10 = .ok (.astore_n 2, 1) := by decide +kernel
theorem dL_addPlough_11 : decode cL_addPlough 11 = .ok (.ldc 20, 2) := by decide +kernel
theorem dL_addPlough_13 : decode cL_addPlough 13 = .ok (.ireturn, 1) := by decide +kernel
theorem dL_order_0 : decode cL_order 0 = .ok (.aload_n 0, 1) := by decide +kernel
theorem dL_order_1 : decode cL_order 1 = .ok (.iload_n 1, 1) := by decide +kernel
theorem dL_order_2 : decode cL_order 2 = .ok (.iload_n 2, 1) := by decide +kernel
theorem dL_order_3 : decode cL_order 3 = .ok (.invokevirtual 28, 3) := by decide +kernel
theorem dL_order_6 : decode cL_order 6 = .ok (.ireturn, 1) := by decide +kernel
theorem dL_order_7 : decode cL_order 7 = .ok (.astore_n 3, 1) := by decide +kernel
theorem dL_order_8 : decode cL_order 8 = .ok (.ldc 17, 2) := by decide +kernel
theorem dL_order_10 : decode cL_order 10 = .ok (.ireturn, 1) := by decide +kernel
theorem dL_order_11 : decode cL_order 11 = .ok (.astore_n 3, 1) := by decide +kernel
theorem dL_order_12 : decode cL_order 12 = .ok (.ldc 20, 2) := by decide +kernel
theorem dL_order_14 : decode cL_order 14 = .ok (.ireturn, 1) := by decide +kernel
theorem dL_cancelOrder_0 : decode cL_cancelOrder 0 = .ok (.aload_n 0, 1) := by decide +kernel
theorem dL_cancelOrder_1 : decode cL_cancelOrder 1 = .ok (.iload_n 1, 1) := by decide +kernel
theorem dL_cancelOrder_2 : decode cL_cancelOrder 2 = .ok (.invokevirtual 32, 3) := by decide +kernel
theorem dL_cancelOrder_5 : decode cL_cancelOrder 5 = .ok (.ireturn, 1) := by decide +kernel
theorem dL_cancelOrder_6 : decode cL_cancelOrder 6 = .ok (.astore_n 2, 1) := by decide +kernel
theorem dL_cancelOrder_7 : decode cL_cancelOrder 7 = .ok (.ldc 17, 2) := by decide +kernel
theorem dL_cancelOrder_9 : decode cL_cancelOrder 9 = .ok (.ireturn, 1) := by decide +kernel
theorem dL_cancelOrder_10 : decode cL_cancelOrder 10 = .ok (.astore_n 2, 1) := by decide +kernel
theorem dL_cancelOrder_11 : decode cL_cancelOrder 11 = .ok (.ldc 20, 2) := by decide +kernel
theorem dL_cancelOrder_13 : decode cL_cancelOrder 13 = .ok (.ireturn, 1) := by decide +kernel
theorem dL_salt_0 : decode cL_salt 0 = .ok (.aload_n 0, 1) := by decide +kernel
theorem dL_salt_1 : decode cL_salt 1 = .ok (.iload_n 1, 1) := by decide +kernel
theorem dL_salt_2 : decode cL_salt 2 = .ok (.invokevirtual 37, 3) := by decide +kernel
theorem dL_salt_5 : decode cL_salt 5 = .ok (.ireturn, 1) := by decide +kernel
theorem dL_salt_6 : decode cL_salt 6 = .ok (.astore_n 2, 1) := by decide +kernel
theorem dL_salt_7 : decode cL_salt 7 = .ok (.ldc 17, 2) := by decide +kernel
theorem dL_salt_9 : decode cL_salt 9 = .ok (.ireturn, 1) := by decide +kernel
theorem dL_salt_10 : decode cL_salt 10 = .ok (.astore_n 2, 1) := by decide +kernel
theorem dL_salt_11 : decode cL_salt 11 = .ok (.ldc 20, 2) := by decide +kernel
theorem dL_salt_13 : decode cL_salt 13 = .ok (.ireturn, 1) := by decide +kernel
theorem dL_salt_14 : decode cL_salt 14 = .ok (.astore_n 2, 1) := by decide +kernel
theorem dL_salt_15 : decode cL_salt 15 = .ok (.ldc 23, 2) := by decide +kernel
theorem dL_salt_17 : decode cL_salt 17 = .ok (.ireturn, 1) := by decide +kernel
theorem dL_loadSalt_0 : decode cL_loadSalt 0 = .ok (.aload_n 0, 1) := by decide +kernel
theorem dL_loadSalt_1 : decode cL_loadSalt 1 = .ok (.iload_n 1, 1) := by decide +kernel
theorem dL_loadSalt_2 : decode cL_loadSalt 2 = .ok (.invokevirtual 42, 3) := by decide +kernel
theorem dL_loadSalt_5 : decode cL_loadSalt 5 = .ok (.ireturn, 1) := by decide +kernel
theorem dL_loadSalt_6 : decode cL_loadSalt 6 = .ok (.astore_n 2, 1) := by decide +kernel
theorem dL_loadSalt_7 : decode cL_loadSalt 7 = .ok (.ldc 17, 2) := by decide +kernel
theorem dL_loadSalt_9 : decode cL_loadSalt 9 = .ok (.ireturn, 1) := by decide +kernel
theorem dL_loadSalt_10 : decode cL_loadSalt 10 = .ok (.astore_n 2, 1) := by decide +kernel
theorem dL_loadSalt_11 : decode cL_loadSalt 11 = .ok (.ldc 20, 2) := by decide +kernel
theorem dL_loadSalt_13 : decode cL_loadSalt 13 = .ok (.ireturn, 1) := by decide +kernel
theorem dL_setSnowfall_0 : decode cL_setSnowfall 0 = .ok (.aload_n 0, 1) := by decide +kernel
theorem dL_setSnowfall_1 : decode cL_setSnowfall 1 = .ok (.iload_n 1, 1) := by decide +kernel
theorem dL_setSnowfall_2 : decode cL_setSnowfall 2 = .ok (.invokevirtual 45, 3) := by decide +kernel
theorem dL_setSnowfall_5 : decode cL_setSnowfall 5 = .ok (.ireturn, 1) := by decide +kernel
theorem dL_setSnowfall_6 : decode cL_setSnowfall 6 = .ok (.astore_n 2, 1) := by decide +kernel
theorem dL_setSnowfall_7 : decode cL_setSnowfall 7 = .ok (.ldc 17, 2) := by decide +kernel
theorem dL_setSnowfall_9 : decode cL_setSnowfall 9 = .ok (.ireturn, 1) := by decide +kernel
theorem dL_setWind_0 : decode cL_setWind 0 = .ok (.aload_n 0, 1) := by decide +kernel
theorem dL_setWind_1 : decode cL_setWind 1 = .ok (.iload_n 1, 1) := by decide +kernel
theorem dL_setWind_2 : decode cL_setWind 2 = .ok (.invokevirtual 48, 3) := by decide +kernel
theorem dL_setWind_5 : decode cL_setWind 5 = .ok (.ireturn, 1) := by decide +kernel
theorem dL_setWind_6 : decode cL_setWind 6 = .ok (.astore_n 2, 1) := by decide +kernel
theorem dL_setWind_7 : decode cL_setWind 7 = .ok (.ldc 17, 2) := by decide +kernel
theorem dL_setWind_9 : decode cL_setWind 9 = .ok (.ireturn, 1) := by decide +kernel
theorem dL_advance_0 : decode cL_advance 0 = .ok (.aload_n 0, 1) := by decide +kernel
theorem dL_advance_1 : decode cL_advance 1 = .ok (.iload_n 1, 1) := by decide +kernel
theorem dL_advance_2 : decode cL_advance 2 = .ok (.invokevirtual 51, 3) := by decide +kernel
theorem dL_advance_5 : decode cL_advance 5 = .ok (.ireturn, 1) := by decide +kernel
theorem dL_advance_6 : decode cL_advance 6 = .ok (.astore_n 2, 1) := by decide +kernel
theorem dL_advance_7 : decode cL_advance 7 = .ok (.ldc 17, 2) := by decide +kernel
theorem dL_advance_9 : decode cL_advance 9 = .ok (.ireturn, 1) := by decide +kernel
theorem dL_saltMinutes_0 : decode cL_saltMinutes 0 = .ok (.aload_n 0, 1) := by decide +kernel
theorem dL_saltMinutes_1 : decode cL_saltMinutes 1 = .ok (.iload_n 1, 1) := by decide +kernel
theorem dL_saltMinutes_2 : decode cL_saltMinutes 2 = .ok (.invokevirtual 54, 3) := by decide +kernel
theorem dL_saltMinutes_5 : decode cL_saltMinutes 5 = .ok (.ireturn, 1) := by decide +kernel
theorem dL_saltMinutes_6 : decode cL_saltMinutes 6 = .ok (.astore_n 2, 1) := by decide +kernel
theorem dL_saltMinutes_7 : decode cL_saltMinutes 7 = .ok (.ldc 17, 2) := by decide +kernel
theorem dL_saltMinutes_9 : decode cL_saltMinutes 9 = .ok (.ireturn, 1) := by decide +kernel
theorem dL_saltMinutes_10 : decode cL_saltMinutes 10 = .ok (.astore_n 2, 1) := by decide +kernel
theorem dL_saltMinutes_11 : decode cL_saltMinutes 11 = .ok (.ldc 20, 2) := by decide +kernel
theorem dL_saltMinutes_13 : decode cL_saltMinutes 13 = .ok (.ireturn, 1) := by decide +kernel
theorem dL_distance_0 : decode cL_distance 0 = .ok (.aload_n 0, 1) := by decide +kernel
theorem dL_distance_1 : decode cL_distance 1 = .ok (.iload_n 1, 1) := by decide +kernel
theorem dL_distance_2 : decode cL_distance 2 = .ok (.iload_n 2, 1) := by decide +kernel
theorem dL_distance_3 : decode cL_distance 3 = .ok (.invokevirtual 57, 3) := by decide +kernel
theorem dL_distance_6 : decode cL_distance 6 = .ok (.ireturn, 1) := by decide +kernel
theorem dL_distance_7 : decode cL_distance 7 = .ok (.astore_n 3, 1) := by decide +kernel
theorem dL_distance_8 : decode cL_distance 8 = .ok (.ldc 17, 2) := by decide +kernel
theorem dL_distance_10 : decode cL_distance 10 = .ok (.ireturn, 1) := by decide +kernel
theorem dL_distance_11 : decode cL_distance 11 = .ok (.astore_n 3, 1) := by decide +kernel
theorem dL_distance_12 : decode cL_distance 12 = .ok (.ldc 20, 2) := by decide +kernel
theorem dL_distance_14 : decode cL_distance 14 = .ok (.ireturn, 1) := by decide +kernel
theorem dL_distanceByJunctions_0 : decode cL_distanceByJunctions 0 = .ok (.aload_n 0, 1) := by decide +kernel
theorem dL_distanceByJunctions_1 : decode cL_distanceByJunctions 1 = .ok (.iload_n 1, 1) := by decide +kernel
theorem dL_distanceByJunctions_2 : decode cL_distanceByJunctions 2 = .ok (.iload_n 2, 1) := by decide +kernel
theorem dL_distanceByJunctions_3 : decode cL_distanceByJunctions 3 = .ok (.invokevirtual 60, 3) := by decide +kernel
theorem dL_distanceByJunctions_6 : decode cL_distanceByJunctions 6 = .ok (.ireturn, 1) := by decide +kernel
theorem dL_distanceByJunctions_7 : decode cL_distanceByJunctions 7 = .ok (.astore_n 3, 1) := by decide +kernel
theorem dL_distanceByJunctions_8 : decode cL_distanceByJunctions 8 = .ok (.ldc 17, 2) := by decide +kernel
theorem dL_distanceByJunctions_10 : decode cL_distanceByJunctions 10 = .ok (.ireturn, 1) := by decide +kernel
theorem dL_distanceByJunctions_11 : decode cL_distanceByJunctions 11 = .ok (.astore_n 3, 1) := by decide +kernel
theorem dL_distanceByJunctions_12 : decode cL_distanceByJunctions 12 = .ok (.ldc 20, 2) := by decide +kernel
theorem dL_distanceByJunctions_14 : decode cL_distanceByJunctions 14 = .ok (.ireturn, 1) := by decide +kernel
theorem dL_streetByUrgency_0 : decode cL_streetByUrgency 0 = .ok (.aload_n 0, 1) := by decide +kernel
theorem dL_streetByUrgency_1 : decode cL_streetByUrgency 1 = .ok (.iload_n 1, 1) := by decide +kernel
theorem dL_streetByUrgency_2 : decode cL_streetByUrgency 2 = .ok (.invokevirtual 63, 3) := by decide +kernel
theorem dL_streetByUrgency_5 : decode cL_streetByUrgency 5 = .ok (.ireturn, 1) := by decide +kernel
theorem dL_streetByUrgency_6 : decode cL_streetByUrgency 6 = .ok (.astore_n 2, 1) := by decide +kernel
theorem dL_streetByUrgency_7 : decode cL_streetByUrgency 7 = .ok (.ldc 17, 2) := by decide +kernel
theorem dL_streetByUrgency_9 : decode cL_streetByUrgency 9 = .ok (.ireturn, 1) := by decide +kernel
theorem dL_currentStreet_0 : decode cL_currentStreet 0 = .ok (.aload_n 0, 1) := by decide +kernel
theorem dL_currentStreet_1 : decode cL_currentStreet 1 = .ok (.iload_n 1, 1) := by decide +kernel
theorem dL_currentStreet_2 : decode cL_currentStreet 2 = .ok (.invokevirtual 66, 3) := by decide +kernel
theorem dL_currentStreet_5 : decode cL_currentStreet 5 = .ok (.ireturn, 1) := by decide +kernel
theorem dL_currentStreet_6 : decode cL_currentStreet 6 = .ok (.astore_n 2, 1) := by decide +kernel
theorem dL_currentStreet_7 : decode cL_currentStreet 7 = .ok (.ldc 17, 2) := by decide +kernel
theorem dL_currentStreet_9 : decode cL_currentStreet 9 = .ok (.ireturn, 1) := by decide +kernel
theorem dL_currentStreet_10 : decode cL_currentStreet 10 = .ok (.astore_n 2, 1) := by decide +kernel
theorem dL_currentStreet_11 : decode cL_currentStreet 11 = .ok (.ldc 20, 2) := by decide +kernel
theorem dL_currentStreet_13 : decode cL_currentStreet 13 = .ok (.ireturn, 1) := by decide +kernel
theorem dL_queuedStreet_0 : decode cL_queuedStreet 0 = .ok (.aload_n 0, 1) := by decide +kernel
theorem dL_queuedStreet_1 : decode cL_queuedStreet 1 = .ok (.iload_n 1, 1) := by decide +kernel
theorem dL_queuedStreet_2 : decode cL_queuedStreet 2 = .ok (.iload_n 2, 1) := by decide +kernel
theorem dL_queuedStreet_3 : decode cL_queuedStreet 3 = .ok (.invokevirtual 69, 3) := by decide +kernel
theorem dL_queuedStreet_6 : decode cL_queuedStreet 6 = .ok (.ireturn, 1) := by decide +kernel
theorem dL_queuedStreet_7 : decode cL_queuedStreet 7 = .ok (.astore_n 3, 1) := by decide +kernel
theorem dL_queuedStreet_8 : decode cL_queuedStreet 8 = .ok (.ldc 17, 2) := by decide +kernel
theorem dL_queuedStreet_10 : decode cL_queuedStreet 10 = .ok (.ireturn, 1) := by decide +kernel
theorem dL_queuedStreet_11 : decode cL_queuedStreet 11 = .ok (.astore_n 3, 1) := by decide +kernel
theorem dL_queuedStreet_12 : decode cL_queuedStreet 12 = .ok (.ldc 20, 2) := by decide +kernel
theorem dL_queuedStreet_14 : decode cL_queuedStreet 14 = .ok (.ireturn, 1) := by decide +kernel
theorem dL_orderMinutes_0 : decode cL_orderMinutes 0 = .ok (.aload_n 0, 1) := by decide +kernel
theorem dL_orderMinutes_1 : decode cL_orderMinutes 1 = .ok (.iload_n 1, 1) := by decide +kernel
theorem dL_orderMinutes_2 : decode cL_orderMinutes 2 = .ok (.iload_n 2, 1) := by decide +kernel
theorem dL_orderMinutes_3 : decode cL_orderMinutes 3 = .ok (.invokevirtual 72, 3) := by decide +kernel
theorem dL_orderMinutes_6 : decode cL_orderMinutes 6 = .ok (.ireturn, 1) := by decide +kernel
theorem dL_orderMinutes_7 : decode cL_orderMinutes 7 = .ok (.astore_n 3, 1) := by decide +kernel
theorem dL_orderMinutes_8 : decode cL_orderMinutes 8 = .ok (.ldc 17, 2) := by decide +kernel
theorem dL_orderMinutes_10 : decode cL_orderMinutes 10 = .ok (.ireturn, 1) := by decide +kernel
theorem dL_orderMinutes_11 : decode cL_orderMinutes 11 = .ok (.astore_n 3, 1) := by decide +kernel
theorem dL_orderMinutes_12 : decode cL_orderMinutes 12 = .ok (.ldc 20, 2) := by decide +kernel
theorem dL_orderMinutes_14 : decode cL_orderMinutes 14 = .ok (.ireturn, 1) := by decide +kernel
theorem dL_minutesUntilCleared_0 : decode cL_minutesUntilCleared 0 = .ok (.aload_n 0, 1) := by decide +kernel
theorem dL_minutesUntilCleared_1 : decode cL_minutesUntilCleared 1 = .ok (.iload_n 1, 1) := by decide +kernel
theorem dL_minutesUntilCleared_2 : decode cL_minutesUntilCleared 2 = .ok (.invokevirtual 75, 3) := by decide +kernel
theorem dL_minutesUntilCleared_5 : decode cL_minutesUntilCleared 5 = .ok (.ireturn, 1) := by decide +kernel
theorem dL_minutesUntilCleared_6 : decode cL_minutesUntilCleared 6 = .ok (.astore_n 2, 1) := by decide +kernel
theorem dL_minutesUntilCleared_7 : decode cL_minutesUntilCleared 7 = .ok (.ldc 17, 2) := by decide +kernel
theorem dL_minutesUntilCleared_9 : decode cL_minutesUntilCleared 9 = .ok (.ireturn, 1) := by decide +kernel
theorem dL_minutesUntilCleared_10 : decode cL_minutesUntilCleared 10 = .ok (.astore_n 2, 1) := by decide +kernel
theorem dL_minutesUntilCleared_11 : decode cL_minutesUntilCleared 11 = .ok (.ldc 20, 2) := by decide +kernel
theorem dL_minutesUntilCleared_13 : decode cL_minutesUntilCleared 13 = .ok (.ireturn, 1) := by decide +kernel
theorem dL_depthAfter_0 : decode cL_depthAfter 0 = .ok (.aload_n 0, 1) := by decide +kernel
theorem dL_depthAfter_1 : decode cL_depthAfter 1 = .ok (.iload_n 1, 1) := by decide +kernel
theorem dL_depthAfter_2 : decode cL_depthAfter 2 = .ok (.iload_n 2, 1) := by decide +kernel
theorem dL_depthAfter_3 : decode cL_depthAfter 3 = .ok (.invokevirtual 78, 3) := by decide +kernel
theorem dL_depthAfter_6 : decode cL_depthAfter 6 = .ok (.ireturn, 1) := by decide +kernel
theorem dL_depthAfter_7 : decode cL_depthAfter 7 = .ok (.astore_n 3, 1) := by decide +kernel
theorem dL_depthAfter_8 : decode cL_depthAfter 8 = .ok (.ldc 17, 2) := by decide +kernel
theorem dL_depthAfter_10 : decode cL_depthAfter 10 = .ok (.ireturn, 1) := by decide +kernel
theorem dL_depthAfter_11 : decode cL_depthAfter 11 = .ok (.astore_n 3, 1) := by decide +kernel
theorem dL_depthAfter_12 : decode cL_depthAfter 12 = .ok (.ldc 20, 2) := by decide +kernel
theorem dL_depthAfter_14 : decode cL_depthAfter 14 = .ok (.ireturn, 1) := by decide +kernel
theorem dL_runScript_0 : decode cL_runScript 0 = .ok (.aload_n 0, 1) := by decide +kernel
theorem dL_runScript_1 : decode cL_runScript 1 = .ok (.invokevirtual 81, 3) := by decide +kernel
theorem dL_runScript_4 : decode cL_runScript 4 = .ok (.ireturn, 1) := by decide +kernel
theorem dL_runScript_5 : decode cL_runScript 5 = .ok (.astore_n 1, 1) := by decide +kernel
theorem dL_runScript_6 : decode cL_runScript 6 = .ok (.ldc 17, 2) := by decide +kernel
theorem dL_runScript_8 : decode cL_runScript 8 = .ok (.ireturn, 1) := by decide +kernel
theorem dL_runScript_9 : decode cL_runScript 9 = .ok (.astore_n 1, 1) := by decide +kernel
theorem dL_runScript_10 : decode cL_runScript 10 = .ok (.ldc 20, 2) := by decide +kernel
theorem dL_runScript_12 : decode cL_runScript 12 = .ok (.ireturn, 1) := by decide +kernel
theorem dL_undo_0 : decode cL_undo 0 = .ok (.aload_n 0, 1) := by decide +kernel
theorem dL_undo_1 : decode cL_undo 1 = .ok (.invokevirtual 85, 3) := by decide +kernel
theorem dL_undo_4 : decode cL_undo 4 = .ok (.ireturn, 1) := by decide +kernel
theorem dL_undo_5 : decode cL_undo 5 = .ok (.astore_n 1, 1) := by decide +kernel
theorem dL_undo_6 : decode cL_undo 6 = .ok (.ldc 17, 2) := by decide +kernel
theorem dL_undo_8 : decode cL_undo 8 = .ok (.ireturn, 1) := by decide +kernel
theorem dL_restore_0 : decode cL_restore 0 = .ok (.aload_n 0, 1) := by decide +kernel
theorem dL_restore_1 : decode cL_restore 1 = .ok (.invokevirtual 88, 3) := by decide +kernel
theorem dL_restore_4 : decode cL_restore 4 = .ok (.ireturn, 1) := by decide +kernel
theorem dL_restore_5 : decode cL_restore 5 = .ok (.astore_n 1, 1) := by decide +kernel
theorem dL_restore_6 : decode cL_restore 6 = .ok (.ldc 17, 2) := by decide +kernel
theorem dL_restore_8 : decode cL_restore 8 = .ok (.ireturn, 1) := by decide +kernel
theorem dL_in_0 : decode cL_in 0 = .ok (.aload_n 0, 1) := by decide +kernel
theorem dL_in_1 : decode cL_in 1 = .ok (.iload_n 1, 1) := by decide +kernel
theorem dL_in_2 : decode cL_in 2 = .ok (.invokestatic 91, 3) := by decide +kernel
theorem dL_in_5 : decode cL_in 5 = .ok (.ldc 97, 2) := by decide +kernel
theorem dL_in_7 : decode cL_in 7 = .ok (.iand, 1) := by decide +kernel
theorem dL_in_8 : decode cL_in 8 = .ok (.iload_n 2, 1) := by decide +kernel
theorem dL_in_9 : decode cL_in 9 = .ok (.irem, 1) := by decide +kernel
theorem dL_in_10 : decode cL_in 10 = .ok (.ireturn, 1) := by decide +kernel
theorem dL_does_0 : decode cL_does 0 = .ok (.iconst 0, 1) := by decide +kernel
theorem dL_does_1 : decode cL_does 1 = .ok (.istore_n 2, 1) := by decide +kernel
theorem dL_does_2 : decode cL_does 2 = .ok (.iconst 0, 1) := by decide +kernel
theorem dL_does_3 : decode cL_does 3 = .ok (.istore_n 3, 1) := by decide +kernel
theorem dL_does_4 : decode cL_does 4 = .ok (.iload_n 3, 1) := by decide +kernel
theorem dL_does_5 : decode cL_does 5 = .ok (.aload_n 1, 1) := by decide +kernel
theorem dL_does_6 : decode cL_does 6 = .ok (.invokevirtual 98, 3) := by decide +kernel
theorem dL_does_9 : decode cL_does 9 = .ok (.if_icmp .ge 21, 3) := by decide +kernel
theorem dL_does_12 : decode cL_does 12 = .ok (.iload_n 2, 1) := by decide +kernel
theorem dL_does_13 : decode cL_does 13 = .ok (.aload_n 0, 1) := by decide +kernel
theorem dL_does_14 : decode cL_does 14 = .ok (.aload_n 1, 1) := by decide +kernel
theorem dL_does_15 : decode cL_does 15 = .ok (.iload_n 3, 1) := by decide +kernel
theorem dL_does_16 : decode cL_does 16 = .ok (.invokevirtual 103, 3) := by decide +kernel
theorem dL_does_19 : decode cL_does 19 = .ok (.invokevirtual 107, 3) := by decide +kernel
theorem dL_does_22 : decode cL_does 22 = .ok (.iadd, 1) := by decide +kernel
theorem dL_does_23 : decode cL_does 23 = .ok (.istore_n 2, 1) := by decide +kernel
theorem dL_does_24 : decode cL_does 24 = .ok (.iinc 3 1, 3) := by decide +kernel
theorem dL_does_27 : decode cL_does 27 = .ok (.goto (-23), 3) := by decide +kernel
theorem dL_does_30 : decode cL_does 30 = .ok (.iload_n 2, 1) := by decide +kernel
theorem dL_does_31 : decode cL_does 31 = .ok (.ifCond .ge 8, 3) := by decide +kernel
theorem dL_does_34 : decode cL_does 34 = .ok (.ldc 111, 2) := by decide +kernel
theorem dL_does_36 : decode cL_does 36 = .ok (.goto 7, 3) := by decide +kernel
theorem dL_does_39 : decode cL_does 39 = .ok (.aload_n 0, 1) := by decide +kernel
theorem dL_does_40 : decode cL_does 40 = .ok (.invokestatic 112, 3) := by decide +kernel
theorem dL_does_43 : decode cL_does 43 = .ok (.ireturn, 1) := by decide +kernel
theorem dL_begun_0 : decode cL_begun 0 = .ok (.new 10, 3) := by decide +kernel
theorem dL_begun_3 : decode cL_begun 3 = .ok (.dup, 1) := by decide +kernel
theorem dL_begun_4 : decode cL_begun 4 = .ok (.invokespecial 115, 3) := by decide +kernel
theorem dL_begun_7 : decode cL_begun 7 = .ok (.astore_n 1, 1) := by decide +kernel
theorem dL_begun_8 : decode cL_begun 8 = .ok (.iconst 0, 1) := by decide +kernel
theorem dL_begun_9 : decode cL_begun 9 = .ok (.istore_n 2, 1) := by decide +kernel
theorem dL_begun_10 : decode cL_begun 10 = .ok (.iconst 4, 1) := by decide +kernel
theorem dL_begun_11 : decode cL_begun 11 = .ok (.aload_n 0, 1) := by decide +kernel
theorem dL_begun_12 : decode cL_begun 12 = .ok (.iconst 0, 1) := by decide +kernel
theorem dL_begun_13 : decode cL_begun 13 = .ok (.iconst 5, 1) := by decide +kernel
theorem dL_begun_14 : decode cL_begun 14 = .ok (.invokestatic 116, 3) := by decide +kernel
theorem dL_begun_17 : decode cL_begun 17 = .ok (.iadd, 1) := by decide +kernel
theorem dL_begun_18 : decode cL_begun 18 = .ok (.istore_n 3, 1) := by decide +kernel
theorem dL_begun_19 : decode cL_begun 19 = .ok (.iconst 0, 1) := by decide +kernel
theorem dL_begun_20 : decode cL_begun 20 = .ok (.istore 4, 2) := by decide +kernel
theorem dL_begun_22 : decode cL_begun 22 = .ok (.iload 4, 2) := by decide +kernel
theorem dL_begun_24 : decode cL_begun 24 = .ok (.bipush 9, 2) := by decide +kernel
theorem dL_begun_26 : decode cL_begun 26 = .ok (.if_icmp .ge 62, 3) := by decide +kernel
theorem dL_begun_29 : decode cL_begun 29 = .ok (.iload_n 2, 1) := by decide +kernel
theorem dL_begun_30 : decode cL_begun 30 = .ok (.aload_n 1, 1) := by decide +kernel
theorem dL_begun_31 : decode cL_begun 31 = .ok (.aload_n 0, 1) := by decide +kernel
theorem dL_begun_32 : decode cL_begun 32 = .ok (.iconst 1, 1) := by decide +kernel
theorem dL_begun_33 : decode cL_begun 33 = .ok (.iload 4, 2) := by decide +kernel
theorem dL_begun_35 : decode cL_begun 35 = .ok (.iadd, 1) := by decide +kernel
theorem dL_begun_36 : decode cL_begun 36 = .ok (.iload_n 3, 1) := by decide +kernel
theorem dL_begun_37 : decode cL_begun 37 = .ok (.invokestatic 116, 3) := by decide +kernel
theorem dL_begun_40 : decode cL_begun 40 = .ok (.aload_n 0, 1) := by decide +kernel
theorem dL_begun_41 : decode cL_begun 41 = .ok (.bipush 10, 2) := by decide +kernel
theorem dL_begun_43 : decode cL_begun 43 = .ok (.iload 4, 2) := by decide +kernel
theorem dL_begun_45 : decode cL_begun 45 = .ok (.iadd, 1) := by decide +kernel
theorem dL_begun_46 : decode cL_begun 46 = .ok (.iload_n 3, 1) := by decide +kernel
theorem dL_begun_47 : decode cL_begun 47 = .ok (.invokestatic 116, 3) := by decide +kernel
theorem dL_begun_50 : decode cL_begun 50 = .ok (.bipush 97, 2) := by decide +kernel
theorem dL_begun_52 : decode cL_begun 52 = .ok (.aload_n 0, 1) := by decide +kernel
theorem dL_begun_53 : decode cL_begun 53 = .ok (.bipush 19, 2) := by decide +kernel
theorem dL_begun_55 : decode cL_begun 55 = .ok (.iload 4, 2) := by decide +kernel
theorem dL_begun_57 : decode cL_begun 57 = .ok (.iadd, 1) := by decide +kernel
theorem dL_begun_58 : decode cL_begun 58 = .ok (.iconst 3, 1) := by decide +kernel
theorem dL_begun_59 : decode cL_begun 59 = .ok (.invokestatic 116, 3) := by decide +kernel
theorem dL_begun_62 : decode cL_begun 62 = .ok (.iadd, 1) := by decide +kernel
theorem dL_begun_63 : decode cL_begun 63 = .ok (.i2c, 1) := by decide +kernel
theorem dL_begun_64 : decode cL_begun 64 = .ok (.iconst 1, 1) := by decide +kernel
theorem dL_begun_65 : decode cL_begun 65 = .ok (.aload_n 0, 1) := by decide +kernel
theorem dL_begun_66 : decode cL_begun 66 = .ok (.bipush 28, 2) := by decide +kernel
theorem dL_begun_68 : decode cL_begun 68 = .ok (.iload 4, 2) := by decide +kernel
theorem dL_begun_70 : decode cL_begun 70 = .ok (.iadd, 1) := by decide +kernel
theorem dL_begun_71 : decode cL_begun 71 = .ok (.bipush 6, 2) := by decide +kernel
theorem dL_begun_73 : decode cL_begun 73 = .ok (.invokestatic 116, 3) := by decide +kernel
theorem dL_begun_76 : decode cL_begun 76 = .ok (.iadd, 1) := by decide +kernel
theorem dL_begun_77 : decode cL_begun 77 = .ok (.invokestatic 120, 3) := by decide +kernel
theorem dL_begun_80 : decode cL_begun 80 = .ok (.iadd, 1) := by decide +kernel
theorem dL_begun_81 : decode cL_begun 81 = .ok (.istore_n 2, 1) := by decide +kernel
theorem dL_begun_82 : decode cL_begun 82 = .ok (.iinc 4 1, 3) := by decide +kernel
theorem dL_begun_85 : decode cL_begun 85 = .ok (.goto (-63), 3) := by decide +kernel
theorem dL_begun_88 : decode cL_begun 88 = .ok (.iload_n 2, 1) := by decide +kernel
theorem dL_begun_89 : decode cL_begun 89 = .ok (.aload_n 1, 1) := by decide +kernel
theorem dL_begun_90 : decode cL_begun 90 = .ok (.iconst 0, 1) := by decide +kernel
theorem dL_begun_91 : decode cL_begun 91 = .ok (.iconst 1, 1) := by decide +kernel
theorem dL_begun_92 : decode cL_begun 92 = .ok (.bipush 97, 2) := by decide +kernel
theorem dL_begun_94 : decode cL_begun 94 = .ok (.iconst 3, 1) := by decide +kernel
theorem dL_begun_95 : decode cL_begun 95 = .ok (.invokestatic 120, 3) := by decide +kernel
theorem dL_begun_98 : decode cL_begun 98 = .ok (.aload_n 1, 1) := by decide +kernel
theorem dL_begun_99 : decode cL_begun 99 = .ok (.aload_n 0, 1) := by decide +kernel
theorem dL_begun_100 : decode cL_begun 100 = .ok (.bipush 37, 2) := by decide +kernel
theorem dL_begun_102 : decode cL_begun 102 = .ok (.bipush 8, 2) := by decide +kernel
theorem dL_begun_104 : decode cL_begun 104 = .ok (.invokestatic 116, 3) := by decide +kernel
theorem dL_begun_107 : decode cL_begun 107 = .ok (.invokestatic 123, 3) := by decide +kernel
theorem dL_begun_110 : decode cL_begun 110 = .ok (.iadd, 1) := by decide +kernel
theorem dL_begun_111 : decode cL_begun 111 = .ok (.aload_n 1, 1) := by decide +kernel
theorem dL_begun_112 : decode cL_begun 112 = .ok (.aload_n 0, 1) := by decide +kernel
theorem dL_begun_113 : decode cL_begun 113 = .ok (.bipush 38, 2) := by decide +kernel
theorem dL_begun_115 : decode cL_begun 115 = .ok (.iload_n 3, 1) := by decide +kernel
theorem dL_begun_116 : decode cL_begun 116 = .ok (.invokestatic 116, 3) := by decide +kernel
theorem dL_begun_119 : decode cL_begun 119 = .ok (.invokestatic 123, 3) := by decide +kernel
theorem dL_begun_122 : decode cL_begun 122 = .ok (.iadd, 1) := by decide +kernel
theorem dL_begun_123 : decode cL_begun 123 = .ok (.iadd, 1) := by decide +kernel
theorem dL_begun_124 : decode cL_begun 124 = .ok (.istore_n 2, 1) := by decide +kernel
theorem dL_begun_125 : decode cL_begun 125 = .ok (.iconst 0, 1) := by decide +kernel
theorem dL_begun_126 : decode cL_begun 126 = .ok (.istore 4, 2) := by decide +kernel
theorem dL_begun_128 : decode cL_begun 128 = .ok (.iload 4, 2) := by decide +kernel
theorem dL_begun_130 : decode cL_begun 130 = .ok (.iconst 5, 1) := by decide +kernel
theorem dL_begun_131 : decode cL_begun 131 = .ok (.if_icmp .ge 39, 3) := by decide +kernel
theorem dL_begun_134 : decode cL_begun 134 = .ok (.iload_n 2, 1) := by decide +kernel
theorem dL_begun_135 : decode cL_begun 135 = .ok (.aload_n 1, 1) := by decide +kernel
theorem dL_begun_136 : decode cL_begun 136 = .ok (.aload_n 0, 1) := by decide +kernel
theorem dL_begun_137 : decode cL_begun 137 = .ok (.bipush 39, 2) := by decide +kernel
theorem dL_begun_139 : decode cL_begun 139 = .ok (.iload 4, 2) := by decide +kernel
theorem dL_begun_141 : decode cL_begun 141 = .ok (.iadd, 1) := by decide +kernel
theorem dL_begun_142 : decode cL_begun 142 = .ok (.iconst 2, 1) := by decide +kernel
theorem dL_begun_143 : decode cL_begun 143 = .ok (.invokestatic 116, 3) := by decide +kernel
theorem dL_begun_146 : decode cL_begun 146 = .ok (.aload_n 0, 1) := by decide +kernel
theorem dL_begun_147 : decode cL_begun 147 = .ok (.bipush 44, 2) := by decide +kernel
theorem dL_begun_149 : decode cL_begun 149 = .ok (.iload 4, 2) := by decide +kernel
theorem dL_begun_151 : decode cL_begun 151 = .ok (.iadd, 1) := by decide +kernel
theorem dL_begun_152 : decode cL_begun 152 = .ok (.aload_n 1, 1) := by decide +kernel
theorem dL_begun_153 : decode cL_begun 153 = .ok (.invokevirtual 126, 3) := by decide +kernel
theorem dL_begun_156 : decode cL_begun 156 = .ok (.invokestatic 116, 3) := by decide +kernel
theorem dL_begun_159 : decode cL_begun 159 = .ok (.invokestatic 129, 3) := by decide +kernel
theorem dL_begun_162 : decode cL_begun 162 = .ok (.iadd, 1) := by decide +kernel
theorem dL_begun_163 : decode cL_begun 163 = .ok (.istore_n 2, 1) := by decide +kernel
theorem dL_begun_164 : decode cL_begun 164 = .ok (.iinc 4 1, 3) := by decide +kernel
theorem dL_begun_167 : decode cL_begun 167 = .ok (.goto (-39), 3) := by decide +kernel
theorem dL_begun_170 : decode cL_begun 170 = .ok (.iload_n 2, 1) := by decide +kernel
theorem dL_begun_171 : decode cL_begun 171 = .ok (.aload_n 1, 1) := by decide +kernel
theorem dL_begun_172 : decode cL_begun 172 = .ok (.iconst 1, 1) := by decide +kernel
theorem dL_begun_173 : decode cL_begun 173 = .ok (.aload_n 0, 1) := by decide +kernel
theorem dL_begun_174 : decode cL_begun 174 = .ok (.bipush 49, 2) := by decide +kernel
theorem dL_begun_176 : decode cL_begun 176 = .ok (.bipush 60, 2) := by decide +kernel
theorem dL_begun_178 : decode cL_begun 178 = .ok (.invokestatic 116, 3) := by decide +kernel
theorem dL_begun_181 : decode cL_begun 181 = .ok (.iadd, 1) := by decide +kernel
theorem dL_begun_182 : decode cL_begun 182 = .ok (.invokestatic 132, 3) := by decide +kernel
theorem dL_begun_185 : decode cL_begun 185 = .ok (.aload_n 1, 1) := by decide +kernel
theorem dL_begun_186 : decode cL_begun 186 = .ok (.aload_n 0, 1) := by decide +kernel
theorem dL_begun_187 : decode cL_begun 187 = .ok (.bipush 50, 2) := by decide +kernel
theorem dL_begun_189 : decode cL_begun 189 = .ok (.bipush 10, 2) := by decide +kernel
theorem dL_begun_191 : decode cL_begun 191 = .ok (.invokestatic 116, 3) := by decide +kernel
theorem dL_begun_194 : decode cL_begun 194 = .ok (.invokestatic 134, 3) := by decide +kernel
theorem dL_begun_197 : decode cL_begun 197 = .ok (.iadd, 1) := by decide +kernel
theorem dL_begun_198 : decode cL_begun 198 = .ok (.aload_n 1, 1) := by decide +kernel
theorem dL_begun_199 : decode cL_begun 199 = .ok (.aload_n 0, 1) := by decide +kernel
theorem dL_begun_200 : decode cL_begun 200 = .ok (.bipush 51, 2) := by decide +kernel
theorem dL_begun_202 : decode cL_begun 202 = .ok (.bipush 10, 2) := by decide +kernel
theorem dL_begun_204 : decode cL_begun 204 = .ok (.invokestatic 116, 3) := by decide +kernel
theorem dL_begun_207 : decode cL_begun 207 = .ok (.invokestatic 136, 3) := by decide +kernel
theorem dL_begun_210 : decode cL_begun 210 = .ok (.iadd, 1) := by decide +kernel
theorem dL_begun_211 : decode cL_begun 211 = .ok (.aload_n 1, 1) := by decide +kernel
theorem dL_begun_212 : decode cL_begun 212 = .ok (.iconst 0, 1) := by decide +kernel
theorem dL_begun_213 : decode cL_begun 213 = .ok (.invokestatic 138, 3) := by decide +kernel
theorem dL_begun_216 : decode cL_begun 216 = .ok (.iadd, 1) := by decide +kernel
theorem dL_begun_217 : decode cL_begun 217 = .ok (.iadd, 1) := by decide +kernel
theorem dL_begun_218 : decode cL_begun 218 = .ok (.istore_n 2, 1) := by decide +kernel
theorem dL_begun_219 : decode cL_begun 219 = .ok (.iload_n 2, 1) := by decide +kernel
theorem dL_begun_220 : decode cL_begun 220 = .ok (.aload_n 0, 1) := by decide +kernel
theorem dL_begun_221 : decode cL_begun 221 = .ok (.bipush 52, 2) := by decide +kernel
theorem dL_begun_223 : decode cL_begun 223 = .ok (.iconst 2, 1) := by decide +kernel
theorem dL_begun_224 : decode cL_begun 224 = .ok (.invokestatic 116, 3) := by decide +kernel
theorem dL_begun_227 : decode cL_begun 227 = .ok (.ifCond .ne 21, 3) := by decide +kernel
theorem dL_begun_230 : decode cL_begun 230 = .ok (.aload_n 1, 1) := by decide +kernel
theorem dL_begun_231 : decode cL_begun 231 = .ok (.iconst 1, 1) := by decide +kernel
theorem dL_begun_232 : decode cL_begun 232 = .ok (.aload_n 0, 1) := by decide +kernel
theorem dL_begun_233 : decode cL_begun 233 = .ok (.bipush 53, 2) := by decide +kernel
theorem dL_begun_235 : decode cL_begun 235 = .ok (.sipush 300, 3) := by decide +kernel
theorem dL_begun_238 : decode cL_begun 238 = .ok (.invokestatic 116, 3) := by decide +kernel
theorem dL_begun_241 : decode cL_begun 241 = .ok (.iadd, 1) := by decide +kernel
theorem dL_begun_242 : decode cL_begun 242 = .ok (.invokestatic 140, 3) := by decide +kernel
theorem dL_begun_245 : decode cL_begun 245 = .ok (.goto 4, 3) := by decide +kernel
theorem dL_begun_248 : decode cL_begun 248 = .ok (.iconst 0, 1) := by decide +kernel
theorem dL_begun_249 : decode cL_begun 249 = .ok (.iadd, 1) := by decide +kernel
theorem dL_begun_250 : decode cL_begun 250 = .ok (.istore_n 2, 1) := by decide +kernel
theorem dL_begun_251 : decode cL_begun 251 = .ok (.iload_n 2, 1) := by decide +kernel
theorem dL_begun_252 : decode cL_begun 252 = .ok (.ldc 142, 2) := by decide +kernel
theorem dL_begun_254 : decode cL_begun 254 = .ok (.if_icmp .ge 7, 3) := by decide +kernel
theorem dL_begun_257 : decode cL_begun 257 = .ok (.aconst_null, 1) := by decide +kernel
theorem dL_begun_258 : decode cL_begun 258 = .ok (.goto 4, 3) := by decide +kernel
theorem dL_begun_261 : decode cL_begun 261 = .ok (.aload_n 1, 1) := by decide +kernel
theorem dL_begun_262 : decode cL_begun 262 = .ok (.areturn, 1) := by decide +kernel
theorem dL_acts_0 : decode cL_acts 0 = .ok (.aload_n 1, 1) := by decide +kernel
theorem dL_acts_1 : decode cL_acts 1 = .ok (.iload_n 2, 1) := by decide +kernel
theorem dL_acts_2 : decode cL_acts 2 = .ok (.iconst 1, 1) := by decide +kernel
theorem dL_acts_3 : decode cL_acts 3 = .ok (.iadd, 1) := by decide +kernel
theorem dL_acts_4 : decode cL_acts 4 = .ok (.bipush 9, 2) := by decide +kernel
theorem dL_acts_6 : decode cL_acts 6 = .ok (.invokestatic 116, 3) := by decide +kernel
theorem dL_acts_9 : decode cL_acts 9 = .ok (.istore_n 3, 1) := by decide +kernel
theorem dL_acts_10 : decode cL_acts 10 = .ok (.aload_n 1, 1) := by decide +kernel
theorem dL_acts_11 : decode cL_acts 11 = .ok (.iload_n 2, 1) := by decide +kernel
theorem dL_acts_12 : decode cL_acts 12 = .ok (.iconst 2, 1) := by decide +kernel
theorem dL_acts_13 : decode cL_acts 13 = .ok (.iadd, 1) := by decide +kernel
theorem dL_acts_14 : decode cL_acts 14 = .ok (.bipush 13, 2) := by decide +kernel
theorem dL_acts_16 : decode cL_acts 16 = .ok (.invokestatic 116, 3) := by decide +kernel
theorem dL_acts_19 : decode cL_acts 19 = .ok (.istore 4, 2) := by decide +kernel
theorem dL_acts_21 : decode cL_acts 21 = .ok (.aload_n 1, 1) := by decide +kernel
theorem dL_acts_22 : decode cL_acts 22 = .ok (.iload_n 2, 1) := by decide +kernel
theorem dL_acts_23 : decode cL_acts 23 = .ok (.iconst 3, 1) := by decide +kernel
theorem dL_acts_24 : decode cL_acts 24 = .ok (.iadd, 1) := by decide +kernel
theorem dL_acts_25 : decode cL_acts 25 = .ok (.bipush 70, 2) := by decide +kernel
theorem dL_acts_27 : decode cL_acts 27 = .ok (.invokestatic 116, 3) := by decide +kernel
theorem dL_acts_30 : decode cL_acts 30 = .ok (.istore 5, 2) := by decide +kernel
theorem dL_acts_32 : decode cL_acts 32 = .ok (.aload_n 1, 1) := by decide +kernel
theorem dL_acts_33 : decode cL_acts 33 = .ok (.iload_n 2, 1) := by decide +kernel
theorem dL_acts_34 : decode cL_acts 34 = .ok (.bipush 22, 2) := by decide +kernel
theorem dL_acts_36 : decode cL_acts 36 = .ok (.invokestatic 116, 3) := by decide +kernel
theorem dL_acts_39 : decode cL_acts 39 = .ok (.tableswitch 189 0 16 #[81, 105, 111, 111, 111, 111, 121, 129, 129, 136, 145, 156, 167, 167, 167, 167, 167], 81) := by decide +kernel
theorem dL_acts_120 : decode cL_acts 120 = .ok (.aload_n 0, 1) := by decide +kernel
theorem dL_acts_121 : decode cL_acts 121 = .ok (.iload_n 3, 1) := by decide +kernel
theorem dL_acts_122 : decode cL_acts 122 = .ok (.iload 4, 2) := by decide +kernel
theorem dL_acts_124 : decode cL_acts 124 = .ok (.bipush 8, 2) := by decide +kernel
theorem dL_acts_126 : decode cL_acts 126 = .ok (.irem, 1) := by decide +kernel
theorem dL_acts_127 : decode cL_acts 127 = .ok (.bipush 97, 2) := by decide +kernel
theorem dL_acts_129 : decode cL_acts 129 = .ok (.iload 5, 2) := by decide +kernel
theorem dL_acts_131 : decode cL_acts 131 = .ok (.iconst 4, 1) := by decide +kernel
theorem dL_acts_132 : decode cL_acts 132 = .ok (.irem, 1) := by decide +kernel
theorem dL_acts_133 : decode cL_acts 133 = .ok (.iadd, 1) := by decide +kernel
theorem dL_acts_134 : decode cL_acts 134 = .ok (.i2c, 1) := by decide +kernel
theorem dL_acts_135 : decode cL_acts 135 = .ok (.iload 5, 2) := by decide +kernel
theorem dL_acts_137 : decode cL_acts 137 = .ok (.bipush 11, 2) := by decide +kernel
theorem dL_acts_139 : decode cL_acts 139 = .ok (.irem, 1) := by decide +kernel
theorem dL_acts_140 : decode cL_acts 140 = .ok (.invokestatic 120, 3) := by decide +kernel
theorem dL_acts_143 : decode cL_acts 143 = .ok (.ireturn, 1) := by decide +kernel
theorem dL_acts_144 : decode cL_acts 144 = .ok (.aload_n 0, 1) := by decide +kernel
theorem dL_acts_145 : decode cL_acts 145 = .ok (.iload_n 3, 1) := by decide +kernel
theorem dL_acts_146 : decode cL_acts 146 = .ok (.invokestatic 123, 3) := by decide +kernel
theorem dL_acts_149 : decode cL_acts 149 = .ok (.ireturn, 1) := by decide +kernel
theorem dL_acts_150 : decode cL_acts 150 = .ok (.aload_n 0, 1) := by decide +kernel
theorem dL_acts_151 : decode cL_acts 151 = .ok (.iload_n 3, 1) := by decide +kernel
theorem dL_acts_152 : decode cL_acts 152 = .ok (.iconst 4, 1) := by decide +kernel
theorem dL_acts_153 : decode cL_acts 153 = .ok (.irem, 1) := by decide +kernel
theorem dL_acts_154 : decode cL_acts 154 = .ok (.iload 4, 2) := by decide +kernel
theorem dL_acts_156 : decode cL_acts 156 = .ok (.invokestatic 129, 3) := by decide +kernel
theorem dL_acts_159 : decode cL_acts 159 = .ok (.ireturn, 1) := by decide +kernel
theorem dL_acts_160 : decode cL_acts 160 = .ok (.aload_n 0, 1) := by decide +kernel
theorem dL_acts_161 : decode cL_acts 161 = .ok (.iload_n 3, 1) := by decide +kernel
theorem dL_acts_162 : decode cL_acts 162 = .ok (.iconst 4, 1) := by decide +kernel
theorem dL_acts_163 : decode cL_acts 163 = .ok (.irem, 1) := by decide +kernel
theorem dL_acts_164 : decode cL_acts 164 = .ok (.invokestatic 143, 3) := by decide +kernel
theorem dL_acts_167 : decode cL_acts 167 = .ok (.ireturn, 1) := by decide +kernel
theorem dL_acts_168 : decode cL_acts 168 = .ok (.aload_n 0, 1) := by decide +kernel
theorem dL_acts_169 : decode cL_acts 169 = .ok (.iload 4, 2) := by decide +kernel
theorem dL_acts_171 : decode cL_acts 171 = .ok (.invokestatic 138, 3) := by decide +kernel
theorem dL_acts_174 : decode cL_acts 174 = .ok (.ireturn, 1) := by decide +kernel
theorem dL_acts_175 : decode cL_acts 175 = .ok (.aload_n 0, 1) := by decide +kernel
theorem dL_acts_176 : decode cL_acts 176 = .ok (.iconst 4, 1) := by decide +kernel
theorem dL_acts_177 : decode cL_acts 177 = .ok (.iload 5, 2) := by decide +kernel
theorem dL_acts_179 : decode cL_acts 179 = .ok (.imul, 1) := by decide +kernel
theorem dL_acts_180 : decode cL_acts 180 = .ok (.invokestatic 132, 3) := by decide +kernel
theorem dL_acts_183 : decode cL_acts 183 = .ok (.ireturn, 1) := by decide +kernel
theorem dL_acts_184 : decode cL_acts 184 = .ok (.aload_n 0, 1) := by decide +kernel
theorem dL_acts_185 : decode cL_acts 185 = .ok (.iload_n 3, 1) := by decide +kernel
theorem dL_acts_186 : decode cL_acts 186 = .ok (.iload 5, 2) := by decide +kernel
theorem dL_acts_188 : decode cL_acts 188 = .ok (.iconst 2, 1) := by decide +kernel
theorem dL_acts_189 : decode cL_acts 189 = .ok (.irem, 1) := by decide +kernel
theorem dL_acts_190 : decode cL_acts 190 = .ok (.iadd, 1) := by decide +kernel
theorem dL_acts_191 : decode cL_acts 191 = .ok (.invokestatic 134, 3) := by decide +kernel
theorem dL_acts_194 : decode cL_acts 194 = .ok (.ireturn, 1) := by decide +kernel
theorem dL_acts_195 : decode cL_acts 195 = .ok (.aload_n 0, 1) := by decide +kernel
theorem dL_acts_196 : decode cL_acts 196 = .ok (.iload_n 3, 1) := by decide +kernel
theorem dL_acts_197 : decode cL_acts 197 = .ok (.iload 5, 2) := by decide +kernel
theorem dL_acts_199 : decode cL_acts 199 = .ok (.iconst 2, 1) := by decide +kernel
theorem dL_acts_200 : decode cL_acts 200 = .ok (.irem, 1) := by decide +kernel
theorem dL_acts_201 : decode cL_acts 201 = .ok (.iadd, 1) := by decide +kernel
theorem dL_acts_202 : decode cL_acts 202 = .ok (.invokestatic 136, 3) := by decide +kernel
theorem dL_acts_205 : decode cL_acts 205 = .ok (.ireturn, 1) := by decide +kernel
theorem dL_acts_206 : decode cL_acts 206 = .ok (.aload_n 0, 1) := by decide +kernel
theorem dL_acts_207 : decode cL_acts 207 = .ok (.iload 5, 2) := by decide +kernel
theorem dL_acts_209 : decode cL_acts 209 = .ok (.iconst 3, 1) := by decide +kernel
theorem dL_acts_210 : decode cL_acts 210 = .ok (.irem, 1) := by decide +kernel
theorem dL_acts_211 : decode cL_acts 211 = .ok (.ifCond .ne 11, 3) := by decide +kernel
theorem dL_acts_214 : decode cL_acts 214 = .ok (.bipush 8, 2) := by decide +kernel
theorem dL_acts_216 : decode cL_acts 216 = .ok (.iload 5, 2) := by decide +kernel
theorem dL_acts_218 : decode cL_acts 218 = .ok (.imul, 1) := by decide +kernel
theorem dL_acts_219 : decode cL_acts 219 = .ok (.goto 5, 3) := by decide +kernel
theorem dL_acts_222 : decode cL_acts 222 = .ok (.iload 5, 2) := by decide +kernel
theorem dL_acts_224 : decode cL_acts 224 = .ok (.invokestatic 140, 3) := by decide +kernel
theorem dL_acts_227 : decode cL_acts 227 = .ok (.ireturn, 1) := by decide +kernel
theorem dL_acts_228 : decode cL_acts 228 = .ok (.aload_n 0, 1) := by decide +kernel
theorem dL_acts_229 : decode cL_acts 229 = .ok (.new 145, 3) := by decide +kernel
theorem dL_acts_232 : decode cL_acts 232 = .ok (.dup, 1) := by decide +kernel
theorem dL_acts_233 : decode cL_acts 233 = .ok (.invokespecial 147, 3) := by decide +kernel
theorem dL_acts_236 : decode cL_acts 236 = .ok (.ldc 148, 2) := by decide +kernel
theorem dL_acts_238 : decode cL_acts 238 = .ok (.invokevirtual 150, 3) := by decide +kernel
theorem dL_acts_241 : decode cL_acts 241 = .ok (.iconst 1, 1) := by decide +kernel
theorem dL_acts_242 : decode cL_acts 242 = .ok (.iload 5, 2) := by decide +kernel
theorem dL_acts_244 : decode cL_acts 244 = .ok (.iadd, 1) := by decide +kernel
theorem dL_acts_245 : decode cL_acts 245 = .ok (.invokevirtual 154, 3) := by decide +kernel
theorem dL_acts_248 : decode cL_acts 248 = .ok (.iload_n 3, 1) := by decide +kernel
theorem dL_acts_249 : decode cL_acts 249 = .ok (.iconst 3, 1) := by decide +kernel
theorem dL_acts_250 : decode cL_acts 250 = .ok (.irem, 1) := by decide +kernel
theorem dL_acts_251 : decode cL_acts 251 = .ok (.ifCond .ne 37, 3) := by decide +kernel
theorem dL_acts_254 : decode cL_acts 254 = .ok (.new 145, 3) := by decide +kernel
theorem dL_acts_257 : decode cL_acts 257 = .ok (.dup, 1) := by decide +kernel
theorem dL_acts_258 : decode cL_acts 258 = .ok (.invokespecial 147, 3) := by decide +kernel
theorem dL_acts_261 : decode cL_acts 261 = .ok (.ldc 157, 2) := by decide +kernel
theorem dL_acts_263 : decode cL_acts 263 = .ok (.invokevirtual 150, 3) := by decide +kernel
theorem dL_acts_266 : decode cL_acts 266 = .ok (.iload_n 3, 1) := by decide +kernel
theorem dL_acts_267 : decode cL_acts 267 = .ok (.iconst 4, 1) := by decide +kernel
theorem dL_acts_268 : decode cL_acts 268 = .ok (.irem, 1) := by decide +kernel
theorem dL_acts_269 : decode cL_acts 269 = .ok (.invokevirtual 154, 3) := by decide +kernel
theorem dL_acts_272 : decode cL_acts 272 = .ok (.ldc 159, 2) := by decide +kernel
theorem dL_acts_274 : decode cL_acts 274 = .ok (.invokevirtual 150, 3) := by decide +kernel
theorem dL_acts_277 : decode cL_acts 277 = .ok (.iload 4, 2) := by decide +kernel
theorem dL_acts_279 : decode cL_acts 279 = .ok (.invokevirtual 154, 3) := by decide +kernel
theorem dL_acts_282 : decode cL_acts 282 = .ok (.invokevirtual 161, 3) := by decide +kernel
theorem dL_acts_285 : decode cL_acts 285 = .ok (.goto 75, 3) := by decide +kernel
theorem dL_acts_288 : decode cL_acts 288 = .ok (.iload_n 3, 1) := by decide +kernel
theorem dL_acts_289 : decode cL_acts 289 = .ok (.iconst 3, 1) := by decide +kernel
theorem dL_acts_290 : decode cL_acts 290 = .ok (.irem, 1) := by decide +kernel
theorem dL_acts_291 : decode cL_acts 291 = .ok (.iconst 1, 1) := by decide +kernel
theorem dL_acts_292 : decode cL_acts 292 = .ok (.if_icmp .ne 35, 3) := by decide +kernel
theorem dL_acts_295 : decode cL_acts 295 = .ok (.new 145, 3) := by decide +kernel
theorem dL_acts_298 : decode cL_acts 298 = .ok (.dup, 1) := by decide +kernel
theorem dL_acts_299 : decode cL_acts 299 = .ok (.invokespecial 147, 3) := by decide +kernel
theorem dL_acts_302 : decode cL_acts 302 = .ok (.ldc 165, 2) := by decide +kernel
theorem dL_acts_304 : decode cL_acts 304 = .ok (.invokevirtual 150, 3) := by decide +kernel
theorem dL_acts_307 : decode cL_acts 307 = .ok (.iload 4, 2) := by decide +kernel
theorem dL_acts_309 : decode cL_acts 309 = .ok (.invokevirtual 154, 3) := by decide +kernel
theorem dL_acts_312 : decode cL_acts 312 = .ok (.ldc 167, 2) := by decide +kernel
theorem dL_acts_314 : decode cL_acts 314 = .ok (.invokevirtual 150, 3) := by decide +kernel
theorem dL_acts_317 : decode cL_acts 317 = .ok (.iload_n 3, 1) := by decide +kernel
theorem dL_acts_318 : decode cL_acts 318 = .ok (.invokevirtual 154, 3) := by decide +kernel
theorem dL_acts_321 : decode cL_acts 321 = .ok (.invokevirtual 161, 3) := by decide +kernel
theorem dL_acts_324 : decode cL_acts 324 = .ok (.goto 36, 3) := by decide +kernel
theorem dL_acts_327 : decode cL_acts 327 = .ok (.new 145, 3) := by decide +kernel
theorem dL_acts_330 : decode cL_acts 330 = .ok (.dup, 1) := by decide +kernel
theorem dL_acts_331 : decode cL_acts 331 = .ok (.invokespecial 147, 3) := by decide +kernel
theorem dL_acts_334 : decode cL_acts 334 = .ok (.ldc 169, 2) := by decide +kernel
theorem dL_acts_336 : decode cL_acts 336 = .ok (.invokevirtual 150, 3) := by decide +kernel
theorem dL_acts_339 : decode cL_acts 339 = .ok (.iconst 1, 1) := by decide +kernel
theorem dL_acts_340 : decode cL_acts 340 = .ok (.iload 5, 2) := by decide +kernel
theorem dL_acts_342 : decode cL_acts 342 = .ok (.iadd, 1) := by decide +kernel
theorem dL_acts_343 : decode cL_acts 343 = .ok (.invokevirtual 154, 3) := by decide +kernel
theorem dL_acts_346 : decode cL_acts 346 = .ok (.ldc 171, 2) := by decide +kernel
theorem dL_acts_348 : decode cL_acts 348 = .ok (.invokevirtual 150, 3) := by decide +kernel
theorem dL_acts_351 : decode cL_acts 351 = .ok (.iload_n 3, 1) := by decide +kernel
theorem dL_acts_352 : decode cL_acts 352 = .ok (.iconst 3, 1) := by decide +kernel
theorem dL_acts_353 : decode cL_acts 353 = .ok (.irem, 1) := by decide +kernel
theorem dL_acts_354 : decode cL_acts 354 = .ok (.invokevirtual 154, 3) := by decide +kernel
theorem dL_acts_357 : decode cL_acts 357 = .ok (.invokevirtual 161, 3) := by decide +kernel
theorem dL_acts_360 : decode cL_acts 360 = .ok (.invokevirtual 150, 3) := by decide +kernel
theorem dL_acts_363 : decode cL_acts 363 = .ok (.invokevirtual 161, 3) := by decide +kernel
theorem dL_acts_366 : decode cL_acts 366 = .ok (.invokestatic 173, 3) := by decide +kernel
theorem dL_acts_369 : decode cL_acts 369 = .ok (.ireturn, 1) := by decide +kernel
theorem dL_seen_0 : decode cL_seen 0 = .ok (.sipush 160, 3) := by decide +kernel
theorem dL_seen_3 : decode cL_seen 3 = .ok (.newarray .int, 2) := by decide +kernel
theorem dL_seen_5 : decode cL_seen 5 = .ok (.astore_n 1, 1) := by decide +kernel
theorem dL_seen_6 : decode cL_seen 6 = .ok (.aload_n 1, 1) := by decide +kernel
theorem dL_seen_7 : decode cL_seen 7 = .ok (.iconst 0, 1) := by decide +kernel
theorem dL_seen_8 : decode cL_seen 8 = .ok (.aload_n 0, 1) := by decide +kernel
theorem dL_seen_9 : decode cL_seen 9 = .ok (.invokevirtual 177, 3) := by decide +kernel
theorem dL_seen_12 : decode cL_seen 12 = .ok (.iastore, 1) := by decide +kernel
theorem dL_seen_13 : decode cL_seen 13 = .ok (.aload_n 1, 1) := by decide +kernel
theorem dL_seen_14 : decode cL_seen 14 = .ok (.iconst 1, 1) := by decide +kernel
theorem dL_seen_15 : decode cL_seen 15 = .ok (.aload_n 0, 1) := by decide +kernel
theorem dL_seen_16 : decode cL_seen 16 = .ok (.invokevirtual 126, 3) := by decide +kernel
theorem dL_seen_19 : decode cL_seen 19 = .ok (.iastore, 1) := by decide +kernel
theorem dL_seen_20 : decode cL_seen 20 = .ok (.aload_n 1, 1) := by decide +kernel
theorem dL_seen_21 : decode cL_seen 21 = .ok (.iconst 2, 1) := by decide +kernel
theorem dL_seen_22 : decode cL_seen 22 = .ok (.aload_n 0, 1) := by decide +kernel
theorem dL_seen_23 : decode cL_seen 23 = .ok (.invokevirtual 180, 3) := by decide +kernel
theorem dL_seen_26 : decode cL_seen 26 = .ok (.iastore, 1) := by decide +kernel
theorem dL_seen_27 : decode cL_seen 27 = .ok (.aload_n 1, 1) := by decide +kernel
theorem dL_seen_28 : decode cL_seen 28 = .ok (.iconst 3, 1) := by decide +kernel
theorem dL_seen_29 : decode cL_seen 29 = .ok (.aload_n 0, 1) := by decide +kernel
theorem dL_seen_30 : decode cL_seen 30 = .ok (.invokevirtual 183, 3) := by decide +kernel
theorem dL_seen_33 : decode cL_seen 33 = .ok (.iastore, 1) := by decide +kernel
theorem dL_seen_34 : decode cL_seen 34 = .ok (.aload_n 1, 1) := by decide +kernel
theorem dL_seen_35 : decode cL_seen 35 = .ok (.iconst 4, 1) := by decide +kernel
theorem dL_seen_36 : decode cL_seen 36 = .ok (.aload_n 0, 1) := by decide +kernel
theorem dL_seen_37 : decode cL_seen 37 = .ok (.invokevirtual 186, 3) := by decide +kernel
theorem dL_seen_40 : decode cL_seen 40 = .ok (.iastore, 1) := by decide +kernel
theorem dL_seen_41 : decode cL_seen 41 = .ok (.aload_n 1, 1) := by decide +kernel
theorem dL_seen_42 : decode cL_seen 42 = .ok (.iconst 5, 1) := by decide +kernel
theorem dL_seen_43 : decode cL_seen 43 = .ok (.aload_n 0, 1) := by decide +kernel
theorem dL_seen_44 : decode cL_seen 44 = .ok (.invokevirtual 189, 3) := by decide +kernel
theorem dL_seen_47 : decode cL_seen 47 = .ok (.iastore, 1) := by decide +kernel
theorem dL_seen_48 : decode cL_seen 48 = .ok (.aload_n 1, 1) := by decide +kernel
theorem dL_seen_49 : decode cL_seen 49 = .ok (.bipush 6, 2) := by decide +kernel
theorem dL_seen_51 : decode cL_seen 51 = .ok (.aload_n 0, 1) := by decide +kernel
theorem dL_seen_52 : decode cL_seen 52 = .ok (.invokevirtual 192, 3) := by decide +kernel
theorem dL_seen_55 : decode cL_seen 55 = .ok (.iastore, 1) := by decide +kernel
theorem dL_seen_56 : decode cL_seen 56 = .ok (.aload_n 1, 1) := by decide +kernel
theorem dL_seen_57 : decode cL_seen 57 = .ok (.bipush 7, 2) := by decide +kernel
theorem dL_seen_59 : decode cL_seen 59 = .ok (.aload_n 0, 1) := by decide +kernel
theorem dL_seen_60 : decode cL_seen 60 = .ok (.invokevirtual 195, 3) := by decide +kernel
theorem dL_seen_63 : decode cL_seen 63 = .ok (.iastore, 1) := by decide +kernel
theorem dL_seen_64 : decode cL_seen 64 = .ok (.aload_n 1, 1) := by decide +kernel
theorem dL_seen_65 : decode cL_seen 65 = .ok (.bipush 8, 2) := by decide +kernel
theorem dL_seen_67 : decode cL_seen 67 = .ok (.aload_n 0, 1) := by decide +kernel
theorem dL_seen_68 : decode cL_seen 68 = .ok (.invokevirtual 198, 3) := by decide +kernel
theorem dL_seen_71 : decode cL_seen 71 = .ok (.iastore, 1) := by decide +kernel
theorem dL_seen_72 : decode cL_seen 72 = .ok (.aload_n 1, 1) := by decide +kernel
theorem dL_seen_73 : decode cL_seen 73 = .ok (.bipush 9, 2) := by decide +kernel
theorem dL_seen_75 : decode cL_seen 75 = .ok (.aload_n 0, 1) := by decide +kernel
