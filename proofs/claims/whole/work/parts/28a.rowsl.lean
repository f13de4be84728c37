theorem dL_addStreet_0 : decode cL_addStreet 0 = .ok (.aload 5, 2) := by decide +kernel
theorem dL_addStreet_2 : decode cL_addStreet 2 = .ok (.iconst 0, 1) := by decide +kernel
theorem dL_addStreet_3 : decode cL_addStreet 3 = .ok (.aload_n 0, 1) := by decide +kernel
theorem dL_addStreet_4 : decode cL_addStreet 4 = .ok (.iload_n 1, 1) := by decide +kernel
theorem dL_addStreet_5 : decode cL_addStreet 5 = .ok (.iload_n 2, 1) := by decide +kernel
theorem dL_addStreet_6 : decode cL_addStreet 6 = .ok (.iload_n 3, 1) := by decide +kernel
theorem dL_addStreet_7 : decode cL_addStreet 7 = .ok (.iload 4, 2) := by decide +kernel
theorem dL_addStreet_9 : decode cL_addStreet 9 = .ok (.invokevirtual 7, 3) := by decide +kernel
theorem dL_addStreet_12 : decode cL_addStreet 12 = .ok (.i2l, 1) := by decide +kernel
theorem dL_addStreet_13 : decode cL_addStreet 13 = .ok (.lastore, 1) := by decide +kernel
theorem dL_addStreet_14 : decode cL_addStreet 14 = .ok (.goto 15, 3) := by decide +kernel
theorem dL_addStreet_17 : decode cL_addStreet 17 = .ok (.astore 6, 2) := by decide +kernel
theorem dL_addStreet_19 : decode cL_addStreet 19 = .ok (.iconst 1, 1) := by decide +kernel
theorem dL_addStreet_20 : decode cL_addStreet 20 = .ok (.ireturn, 1) := by decide +kernel
theorem dL_addStreet_21 : decode cL_addStreet 21 = .ok (.astore 6, 2) := by decide +kernel
theorem dL_addStreet_23 : decode cL_addStreet 23 = .ok (.iconst 2, 1) := by decide +kernel
theorem dL_addStreet_24 : decode cL_addStreet 24 = .ok (.ireturn, 1) := by decide +kernel
theorem dL_addStreet_25 : decode cL_addStreet 25 = .ok (.astore 6, 2) := by decide +kernel
theorem dL_addStreet_27 : decode cL_addStreet 27 = .ok (.iconst 3, 1) := by decide +kernel
theorem dL_addStreet_28 : decode cL_addStreet 28 = .ok (.ireturn, 1) := by decide +kernel
theorem dL_addStreet_29 : decode cL_addStreet 29 = .ok (.iconst 0, 1) := by decide +kernel
theorem dL_addStreet_30 : decode cL_addStreet 30 = .ok (.ireturn, 1) := by decide +kernel
theorem dL_addPlough_0 : decode cL_addPlough 0 = .ok (.aload_n 2, 1) := by decide +kernel
theorem dL_addPlough_1 : decode cL_addPlough 1 = .ok (.iconst 0, 1) := by decide +kernel
theorem dL_addPlough_2 : decode cL_addPlough 2 = .ok (.aload_n 0, 1) := by decide +kernel
theorem dL_addPlough_3 : decode cL_addPlough 3 = .ok (.iload_n 1, 1) := by decide +kernel
theorem dL_addPlough_4 : decode cL_addPlough 4 = .ok (.invokevirtual 19, 3) := by decide +kernel
theorem dL_addPlough_7 : decode cL_addPlough 7 = .ok (.i2l, 1) := by decide +kernel
theorem dL_addPlough_8 : decode cL_addPlough 8 = .ok (.lastore, 1) := by decide +kernel
theorem dL_addPlough_9 : decode cL_addPlough 9 = .ok (.goto 9, 3) := by decide +kernel
theorem dL_addPlough_12 : decode cL_addPlough 12 = .ok (.astore_n 3, 1) := by decide +kernel
theorem dL_addPlough_13 : decode cL_addPlough 13 = .ok (.iconst 1, 1) := by decide +kernel
theorem dL_addPlough_14 : decode cL_addPlough 14 = .ok (.ireturn, 1) := by decide +kernel
theorem dL_addPlough_15 : decode cL_addPlough 15 = .ok (.astore_n 3, 1) := by decide +kernel
theorem dL_addPlough_16 : decode cL_addPlough 16 = .ok (.iconst 2, 1) := by decide +kernel
theorem dL_addPlough_17 : decode cL_addPlough 17 = .ok (.ireturn, 1) := by decide +kernel
theorem dL_addPlough_18 : decode cL_addPlough 18 = .ok (.iconst 0, 1) := by decide +kernel
theorem dL_addPlough_19 : decode cL_addPlough 19 = .ok (.ireturn, 1) := by decide +kernel
theorem dL_order_0 : decode cL_order 0 = .ok (.aload_n 3, 1) := by decide +kernel
theorem dL_order_1 : decode cL_order 1 = .ok (.iconst 0, 1) := by decide +kernel
theorem dL_order_2 : decode cL_order 2 = .ok (.aload_n 0, 1) := by decide +kernel
theorem dL_order_3 : decode cL_order 3 = .ok (.iload_n 1, 1) := by decide +kernel
theorem dL_order_4 : decode cL_order 4 = .ok (.iload_n 2, 1) := by decide +kernel
theorem dL_order_5 : decode cL_order 5 = .ok (.invokevirtual 23, 3) := by decide +kernel
theorem dL_order_8 : decode cL_order 8 = .ok (.i2l, 1) := by decide +kernel
theorem dL_order_9 : decode cL_order 9 = .ok (.lastore, 1) := by decide +kernel
theorem dL_order_10 : decode cL_order 10 = .ok (.goto 11, 3) := by decide +kernel
theorem dL_order_13 : decode cL_order 13 = .ok (.astore 4, 2) := by decide +kernel
theorem dL_order_15 : decode cL_order 15 = .ok (.iconst 1, 1) := by decide +kernel
theorem dL_order_16 : decode cL_order 16 = .ok (.ireturn, 1) := by decide +kernel
theorem dL_order_17 : decode cL_order 17 = .ok (.astore 4, 2) := by decide +kernel
theorem dL_order_19 : decode cL_order 19 = .ok (.iconst 2, 1) := by decide +kernel
theorem dL_order_20 : decode cL_order 20 = .ok (.ireturn, 1) := by decide +kernel
theorem dL_order_21 : decode cL_order 21 = .ok (.iconst 0, 1) := by decide +kernel
theorem dL_order_22 : decode cL_order 22 = .ok (.ireturn, 1) := by decide +kernel
theorem dL_cancelOrder_0 : decode cL_cancelOrder 0 = .ok (.aload_n 2, 1) := by decide +kernel
theorem dL_cancelOrder_1 : decode cL_cancelOrder 1 = .ok (.iconst 0, 1) := by decide +kernel
theorem dL_cancelOrder_2 : decode cL_cancelOrder 2 = .ok (.aload_n 0, 1) := by decide +kernel
theorem dL_cancelOrder_3 : decode cL_cancelOrder 3 = .ok (.iload_n 1, 1) := by decide +kernel
theorem dL_cancelOrder_4 : decode cL_cancelOrder 4 = .ok (.invokevirtual 27, 3) := by decide +kernel
theorem dL_cancelOrder_7 : decode cL_cancelOrder 7 = .ok (.i2l, 1) := by decide +kernel
theorem dL_cancelOrder_8 : decode cL_cancelOrder 8 = .ok (.lastore, 1) := by decide +kernel
theorem dL_cancelOrder_9 : decode cL_cancelOrder 9 = .ok (.goto 9, 3) := by decide +kernel
theorem dL_cancelOrder_12 : decode cL_cancelOrder 12 = .ok (.astore_n 3, 1) := by decide +kernel
theorem dL_cancelOrder_13 : decode cL_cancelOrder 13 = .ok (.iconst 1, 1) := by decide +kernel
theorem dL_cancelOrder_14 : decode cL_cancelOrder 14 = .ok (.ireturn, 1) := by decide +kernel
theorem dL_cancelOrder_15 : decode cL_cancelOrder 15 = .ok (.astore_n 3, 1) := by decide +kernel
theorem dL_cancelOrder_16 : decode cL_cancelOrder 16 = .ok (.iconst 2, 1) := by decide +kernel
theorem dL_cancelOrder_17 : decode cL_cancelOrder 17 = .ok (.ireturn, 1) := by decide +kernel
theorem dL_cancelOrder_18 : decode cL_cancelOrder 18 = .ok (.iconst 0, 1) := by decide +kernel
theorem dL_cancelOrder_19 : decode cL_cancelOrder 19 = .ok (.ireturn, 1) := by decide +kernel
theorem dL_salt_0 : decode cL_salt 0 = .ok (.aload_n 2, 1) := by decide +kernel
theorem dL_salt_1 : decode cL_salt 1 = .ok (.iconst 0, 1) := by decide +kernel
theorem dL_salt_2 : decode cL_salt 2 = .ok (.aload_n 0, 1) := by decide +kernel
theorem dL_salt_3 : decode cL_salt 3 = .ok (.iload_n 1, 1) := by decide +kernel
theorem dL_salt_4 : decode cL_salt 4 = .ok (.invokevirtual 32, 3) := by decide +kernel
theorem dL_salt_7 : decode cL_salt 7 = .ok (.i2l, 1) := by decide +kernel
theorem dL_salt_8 : decode cL_salt 8 = .ok (.lastore, 1) := by decide +kernel
theorem dL_salt_9 : decode cL_salt 9 = .ok (.goto 12, 3) := by decide +kernel
theorem dL_salt_12 : decode cL_salt 12 = .ok (.astore_n 3, 1) := by decide +kernel
theorem dL_salt_13 : decode cL_salt 13 = .ok (.iconst 1, 1) := by decide +kernel
theorem dL_salt_14 : decode cL_salt 14 = .ok (.ireturn, 1) := by decide +kernel
theorem dL_salt_15 : decode cL_salt 15 = .ok (.astore_n 3, 1) := by decide +kernel
theorem dL_salt_16 : decode cL_salt 16 = .ok (.iconst 2, 1) := by decide +kernel
theorem dL_salt_17 : decode cL_salt 17 = .ok (.ireturn, 1) := by decide +kernel
theorem dL_salt_18 : decode cL_salt 18 = .ok (.astore_n 3, 1) := by decide +kernel
theorem dL_salt_19 : decode cL_salt 19 = .ok (.iconst 3, 1) := by decide +kernel
theorem dL_salt_20 : decode cL_salt 20 = .ok (.ireturn, 1) := by decide +kernel
theorem dL_salt_21 : decode cL_salt 21 = .ok (.iconst 0, 1) := by decide +kernel
theorem dL_salt_22 : decode cL_salt 22 = .ok (.ireturn, 1) := by decide +kernel
theorem dL_loadSalt_0 : decode cL_loadSalt 0 = .ok (.aload_n 2, 1) := by decide +kernel
theorem dL_loadSalt_1 : decode cL_loadSalt 1 = .ok (.iconst 0, 1) := by decide +kernel
theorem dL_loadSalt_2 : decode cL_loadSalt 2 = .ok (.aload_n 0, 1) := by decide +kernel
theorem dL_loadSalt_3 : decode cL_loadSalt 3 = .ok (.iload_n 1, 1) := by decide +kernel
theorem dL_loadSalt_4 : decode cL_loadSalt 4 = .ok (.invokevirtual 37, 3) := by decide +kernel
theorem dL_loadSalt_7 : decode cL_loadSalt 7 = .ok (.i2l, 1) := by decide +kernel
theorem dL_loadSalt_8 : decode cL_loadSalt 8 = .ok (.lastore, 1) := by decide +kernel
theorem dL_loadSalt_9 : decode cL_loadSalt 9 = .ok (.goto 9, 3) := by decide +kernel
theorem dL_loadSalt_12 : decode cL_loadSalt 12 = .ok (.astore_n 3, 1) := by decide +kernel
theorem dL_loadSalt_13 : decode cL_loadSalt 13 = .ok (.iconst 1, 1) := by decide +kernel
theorem dL_loadSalt_14 : decode cL_loadSalt 14 = .ok (.ireturn, 1) := by decide +kernel
theorem dL_loadSalt_15 : decode cL_loadSalt 15 = .ok (.astore_n 3, 1) := by decide +kernel
theorem dL_loadSalt_16 : decode cL_loadSalt 16 = .ok (.iconst 2, 1) := by decide +kernel
theorem dL_loadSalt_17 : decode cL_loadSalt 17 = .ok (.ireturn, 1) := by decide +kernel
theorem dL_loadSalt_18 : decode cL_loadSalt 18 = .ok (.iconst 0, 1) := by decide +kernel
theorem dL_loadSalt_19 : decode cL_loadSalt 19 = .ok (.ireturn, 1) := by decide +kernel
theorem dL_setSnowfall_0 : decode cL_setSnowfall 0 = .ok (.aload_n 2, 1) := by decide +kernel
theorem dL_setSnowfall_1 : decode cL_setSnowfall 1 = .ok (.iconst 0, 1) := by decide +kernel
theorem dL_setSnowfall_2 : decode cL_setSnowfall 2 = .ok (.aload_n 0, 1) := by decide +kernel
theorem dL_setSnowfall_3 : decode cL_setSnowfall 3 = .ok (.iload_n 1, 1) := by decide +kernel
theorem dL_setSnowfall_4 : decode cL_setSnowfall 4 = .ok (.invokevirtual 40, 3) := by decide +kernel
theorem dL_setSnowfall_7 : decode cL_setSnowfall 7 = .ok (.i2l, 1) := by decide +kernel
theorem dL_setSnowfall_8 : decode cL_setSnowfall 8 = .ok (.lastore, 1) := by decide +kernel
theorem dL_setSnowfall_9 : decode cL_setSnowfall 9 = .ok (.goto 6, 3) := by decide +kernel
theorem dL_setSnowfall_12 : decode cL_setSnowfall 12 = .ok (.astore_n 3, 1) := by decide +kernel
theorem dL_setSnowfall_13 : decode cL_setSnowfall 13 = .ok (.iconst 1, 1) := by decide +kernel
theorem dL_setSnowfall_14 : decode cL_setSnowfall 14 = .ok (.ireturn, 1) := by decide +kernel
theorem dL_setSnowfall_15 : decode cL_setSnowfall 15 = .ok (.iconst 0, 1) := by decide +kernel
theorem dL_setSnowfall_16 : decode cL_setSnowfall 16 = .ok (.ireturn, 1) := by decide +kernel
theorem dL_setWind_0 : decode cL_setWind 0 = .ok (.aload_n 2, 1) := by decide +kernel
theorem dL_setWind_1 : decode cL_setWind 1 = .ok (.iconst 0, 1) := by decide +kernel
theorem dL_setWind_2 : decode cL_setWind 2 = .ok (.aload_n 0, 1) := by decide +kernel
theorem dL_setWind_3 : decode cL_setWind 3 = .ok (.iload_n 1, 1) := by decide +kernel
theorem dL_setWind_4 : decode cL_setWind 4 = .ok (.invokevirtual 43, 3) := by decide +kernel
theorem dL_setWind_7 : decode cL_setWind 7 = .ok (.i2l, 1) := by decide +kernel
theorem dL_setWind_8 : decode cL_setWind 8 = .ok (.lastore, 1) := by decide +kernel
theorem dL_setWind_9 : decode cL_setWind 9 = .ok (.goto 6, 3) := by decide +kernel
theorem dL_setWind_12 : decode cL_setWind 12 = .ok (.astore_n 3, 1) := by decide +kernel
theorem dL_setWind_13 : decode cL_setWind 13 = .ok (.iconst 1, 1) := by decide +kernel
theorem dL_setWind_14 : decode cL_setWind 14 = .ok (.ireturn, 1) := by decide +kernel
theorem dL_setWind_15 : decode cL_setWind 15 = .ok (.iconst 0, 1) := by decide +kernel
theorem dL_setWind_16 : decode cL_setWind 16 = .ok (.ireturn, 1) := by decide +kernel
theorem dL_advance_0 : decode cL_advance 0 = .ok (.aload_n 2, 1) := by decide +kernel
theorem dL_advance_1 : decode cL_advance 1 = .ok (.iconst 0, 1) := by decide +kernel
theorem dL_advance_2 : decode cL_advance 2 = .ok (.aload_n 0, 1) := by decide +kernel
theorem dL_advance_3 : decode cL_advance 3 = .ok (.iload_n 1, 1) := by decide +kernel
theorem dL_advance_4 : decode cL_advance 4 = .ok (.invokevirtual 46, 3) := by decide +kernel
theorem dL_advance_7 : decode cL_advance 7 = .ok (.i2l, 1) := by decide +kernel
theorem dL_advance_8 : decode cL_advance 8 = .ok (.lastore, 1) := by decide +kernel
theorem dL_advance_9 : decode cL_advance 9 = .ok (.goto 6, 3) := by decide +kernel
theorem dL_advance_12 : decode cL_advance 12 = .ok (.astore_n 3, 1) := by decide +kernel
theorem dL_advance_13 : decode cL_advance 13 = .ok (.iconst 1, 1) := by decide +kernel
theorem dL_advance_14 : decode cL_advance 14 = .ok (.ireturn, 1) := by decide +kernel
theorem dL_advance_15 : decode cL_advance 15 = .ok (.iconst 0, 1) := by decide +kernel
theorem dL_advance_16 : decode cL_advance 16 = .ok (.ireturn, 1) := by decide +kernel
theorem dL_lowerEnd_0 : decode cL_lowerEnd 0 = .ok (.aload_n 2, 1) := by decide +kernel
theorem dL_lowerEnd_1 : decode cL_lowerEnd 1 = .ok (.iconst 0, 1) := by decide +kernel
theorem dL_lowerEnd_2 : decode cL_lowerEnd 2 = .ok (.aload_n 0, 1) := by decide +kernel
theorem dL_lowerEnd_3 : decode cL_lowerEnd 3 = .ok (.iload_n 1, 1) := by decide +kernel
theorem dL_lowerEnd_4 : decode cL_lowerEnd 4 = .ok (.invokevirtual 49, 3) := by decide +kernel
theorem dL_lowerEnd_7 : decode cL_lowerEnd 7 = .ok (.i2l, 1) := by decide +kernel
theorem dL_lowerEnd_8 : decode cL_lowerEnd 8 = .ok (.lastore, 1) := by decide +kernel
theorem dL_lowerEnd_9 : decode cL_lowerEnd 9 = .ok (.goto 6, 3) := by decide +kernel
theorem dL_lowerEnd_12 : decode cL_lowerEnd 12 = .ok (.astore_n 3, 1) := by decide +kernel
theorem dL_lowerEnd_13 : decode cL_lowerEnd 13 = .ok (.iconst 1, 1) := by decide +kernel
theorem dL_lowerEnd_14 : decode cL_lowerEnd 14 = .ok (.ireturn, 1) := by decide +kernel
theorem dL_lowerEnd_15 : decode cL_lowerEnd 15 = .ok (.iconst 0, 1) := by decide +kernel
theorem dL_lowerEnd_16 : decode cL_lowerEnd 16 = .ok (.ireturn, 1) := by decide +kernel
theorem dL_higherEnd_0 : decode cL_higherEnd 0 = .ok (.aload_n 2, 1) := by decide +kernel
theorem dL_higherEnd_1 : decode cL_higherEnd 1 = .ok (.iconst 0, 1) := by decide +kernel
theorem dL_higherEnd_2 : decode cL_higherEnd 2 = .ok (.aload_n 0, 1) := by decide +kernel
theorem dL_higherEnd_3 : decode cL_higherEnd 3 = .ok (.iload_n 1, 1) := by decide +kernel
theorem dL_higherEnd_4 : decode cL_higherEnd 4 = .ok (.invokevirtual 52, 3) := by decide +kernel
theorem dL_higherEnd_7 : decode cL_higherEnd 7 = .ok (.i2l, 1) := by decide +kernel
theorem dL_higherEnd_8 : decode cL_higherEnd 8 = .ok (.lastore, 1) := by decide +kernel
theorem dL_higherEnd_9 : decode cL_higherEnd 9 = .ok (.goto 6, 3) := by decide +kernel
theorem dL_higherEnd_12 : decode cL_higherEnd 12 = .ok (.astore_n 3, 1) := by decide +kernel
theorem dL_higherEnd_13 : decode cL_higherEnd 13 = .ok (.iconst 1, 1) := by decide +kernel
theorem dL_higherEnd_14 : decode cL_higherEnd 14 = .ok (.ireturn, 1) := by decide +kernel
theorem dL_higherEnd_15 : decode cL_higherEnd 15 = .ok (.iconst 0, 1) := by decide +kernel
theorem dL_higherEnd_16 : decode cL_higherEnd 16 = .ok (.ireturn, 1) := by decide +kernel
theorem dL_streetClass_0 : decode cL_streetClass 0 = .ok (.aload_n 2, 1) := by decide +kernel
theorem dL_streetClass_1 : decode cL_streetClass 1 = .ok (.iconst 0, 1) := by decide +kernel
theorem dL_streetClass_2 : decode cL_streetClass 2 = .ok (.aload_n 0, 1) := by decide +kernel
theorem dL_streetClass_3 : decode cL_streetClass 3 = .ok (.iload_n 1, 1) := by decide +kernel
theorem dL_streetClass_4 : decode cL_streetClass 4 = .ok (.invokevirtual 55, 3) := by decide +kernel
theorem dL_streetClass_7 : decode cL_streetClass 7 = .ok (.i2l, 1) := by decide +kernel
theorem dL_streetClass_8 : decode cL_streetClass 8 = .ok (.lastore, 1) := by decide +kernel
theorem dL_streetClass_9 : decode cL_streetClass 9 = .ok (.goto 6, 3) := by decide +kernel
theorem dL_streetClass_12 : decode cL_streetClass 12 = .ok (.astore_n 3, 1) := by decide +kernel
theorem dL_streetClass_13 : decode cL_streetClass 13 = .ok (.iconst 1, 1) := by decide +kernel
theorem dL_streetClass_14 : decode cL_streetClass 14 = .ok (.ireturn, 1) := by decide +kernel
theorem dL_streetClass_15 : decode cL_streetClass 15 = .ok (.iconst 0, 1) := by decide +kernel
theorem dL_streetClass_16 : decode cL_streetClass 16 = .ok (.ireturn, 1) := by decide +kernel
theorem dL_length_0 : decode cL_length 0 = .ok (.aload_n 2, 1) := by decide +kernel
theorem dL_length_1 : decode cL_length 1 = .ok (.iconst 0, 1) := by decide +kernel
theorem dL_length_2 : decode cL_length 2 = .ok (.aload_n 0, 1) := by decide +kernel
theorem dL_length_3 : decode cL_length 3 = .ok (.iload_n 1, 1) := by decide +kernel
theorem dL_length_4 : decode cL_length 4 = .ok (.invokevirtual 59, 3) := by decide +kernel
theorem dL_length_7 : decode cL_length 7 = .ok (.i2l, 1) := by decide +kernel
theorem dL_length_8 : decode cL_length 8 = .ok (.lastore, 1) := by decide +kernel
theorem dL_length_9 : decode cL_length 9 = .ok (.goto 6, 3) := by decide +kernel
theorem dL_length_12 : decode cL_length 12 = .ok (.astore_n 3, 1) := by decide +kernel
theorem dL_length_13 : decode cL_length 13 = .ok (.iconst 1, 1) := by decide +kernel
theorem dL_length_14 : decode cL_length 14 = .ok (.ireturn, 1) := by decide +kernel
theorem dL_length_15 : decode cL_length 15 = .ok (.iconst 0, 1) := by decide +kernel
theorem dL_length_16 : decode cL_length 16 = .ok (.ireturn, 1) := by decide +kernel
theorem dL_depth_0 : decode cL_depth 0 = .ok (.aload_n 2, 1) := by decide +kernel
theorem dL_depth_1 : decode cL_depth 1 = .ok (.iconst 0, 1) := by decide +kernel
theorem dL_depth_2 : decode cL_depth 2 = .ok (.aload_n 0, 1) := by decide +kernel
theorem dL_depth_3 : decode cL_depth 3 = .ok (.iload_n 1, 1) := by decide +kernel
theorem dL_depth_4 : decode cL_depth 4 = .ok (.invokevirtual 62, 3) := by decide +kernel
theorem dL_depth_7 : decode cL_depth 7 = .ok (.i2l, 1) := by decide +kernel
theorem dL_depth_8 : decode cL_depth 8 = .ok (.lastore, 1) := by decide +kernel
theorem dL_depth_9 : decode cL_depth 9 = .ok (.goto 6, 3) := by decide +kernel
theorem dL_depth_12 : decode cL_depth 12 = .ok (.astore_n 3, 1) := by decide +kernel
theorem dL_depth_13 : decode cL_depth 13 = .ok (.iconst 1, 1) := by decide +kernel
theorem dL_depth_14 : decode cL_depth 14 = .ok (.ireturn, 1) := by decide +kernel
theorem dL_depth_15 : decode cL_depth 15 = .ok (.iconst 0, 1) := by decide +kernel
theorem dL_depth_16 : decode cL_depth 16 = .ok (.ireturn, 1) := by decide +kernel
theorem dL_isOverdue_0 : decode cL_isOverdue 0 = .ok (.aload_n 2, 1) := by decide +kernel
theorem dL_isOverdue_1 : decode cL_isOverdue 1 = .ok (.iconst 0, 1) := by decide +kernel
theorem dL_isOverdue_2 : decode cL_isOverdue 2 = .ok (.aload_n 0, 1) := by decide +kernel
theorem dL_isOverdue_3 : decode cL_isOverdue 3 = .ok (.iload_n 1, 1) := by decide +kernel
theorem dL_isOverdue_4 : decode cL_isOverdue 4 = .ok (.invokevirtual 65, 3) := by decide +kernel
theorem dL_isOverdue_7 : decode cL_isOverdue 7 = .ok (.ifCond .eq 7, 3) := by decide +kernel
theorem dL_isOverdue_10 : decode cL_isOverdue 10 = .ok (.lconst 1, 1) := by decide +kernel
theorem dL_isOverdue_11 : decode cL_isOverdue 11 = .ok (.goto 4, 3) := by decide +kernel
theorem dL_isOverdue_14 : decode cL_isOverdue 14 = .ok (.lconst 0, 1) := by decide +kernel
theorem dL_isOverdue_15 : decode cL_isOverdue 15 = .ok (.lastore, 1) := by decide +kernel
theorem dL_isOverdue_16 : decode cL_isOverdue 16 = .ok (.goto 6, 3) := by decide +kernel
theorem dL_isOverdue_19 : decode cL_isOverdue 19 = .ok (.astore_n 3, 1) := by decide +kernel
theorem dL_isOverdue_20 : decode cL_isOverdue 20 = .ok (.iconst 1, 1) := by decide +kernel
theorem dL_isOverdue_21 : decode cL_isOverdue 21 = .ok (.ireturn, 1) := by decide +kernel
theorem dL_isOverdue_22 : decode cL_isOverdue 22 = .ok (.iconst 0, 1) := by decide +kernel
theorem dL_isOverdue_23 : decode cL_isOverdue 23 = .ok (.ireturn, 1) := by decide +kernel
theorem dL_isSalted_0 : decode cL_isSalted 0 = .ok (.aload_n 2, 1) := by decide +kernel
theorem dL_isSalted_1 : decode cL_isSalted 1 = .ok (.iconst 0, 1) := by decide +kernel
theorem dL_isSalted_2 : decode cL_isSalted 2 = .ok (.aload_n 0, 1) := by decide +kernel
theorem dL_isSalted_3 : decode cL_isSalted 3 = .ok (.iload_n 1, 1) := by decide +kernel
theorem dL_isSalted_4 : decode cL_isSalted 4 = .ok (.invokevirtual 69, 3) := by decide +kernel
theorem dL_isSalted_7 : decode cL_isSalted 7 = .ok (.ifCond .eq 7, 3) := by decide +kernel
theorem dL_isSalted_10 : decode cL_isSalted 10 = .ok (.lconst 1, 1) := by decide +kernel
theorem dL_isSalted_11 : decode cL_isSalted 11 = .ok (.goto 4, 3) := by decide +kernel
theorem dL_isSalted_14 : decode cL_isSalted 14 = .ok (.lconst 0, 1) := by decide +kernel
theorem dL_isSalted_15 : decode cL_isSalted 15 = .ok (.lastore, 1) := by decide +kernel
theorem dL_isSalted_16 : decode cL_isSalted 16 = .ok (.goto 6, 3) := by decide +kernel
theorem dL_isSalted_19 : decode cL_isSalted 19 = .ok (.astore_n 3, 1) := by decide +kernel
theorem dL_isSalted_20 : decode cL_isSalted 20 = .ok (.iconst 1, 1) := by decide +kernel
theorem dL_isSalted_21 : decode cL_isSalted 21 = .ok (.ireturn, 1) := by decide +kernel
theorem dL_isSalted_22 : decode cL_isSalted 22 = .ok (.iconst 0, 1) := by decide +kernel
theorem dL_isSalted_23 : decode cL_isSalted 23 = .ok (.ireturn, 1) := by decide +kernel
theorem dL_saltMinutes_0 : decode cL_saltMinutes 0 = .ok (.aload_n 2, 1) := by decide +kernel
theorem dL_saltMinutes_1 : decode cL_saltMinutes 1 = .ok (.iconst 0, 1) := by decide +kernel
theorem dL_saltMinutes_2 : decode cL_saltMinutes 2 = .ok (.aload_n 0, 1) := by decide +kernel
theorem dL_saltMinutes_3 : decode cL_saltMinutes 3 = .ok (.iload_n 1, 1) := by decide +kernel
theorem dL_saltMinutes_4 : decode cL_saltMinutes 4 = .ok (.invokevirtual 72, 3) := by decide +kernel
theorem dL_saltMinutes_7 : decode cL_saltMinutes 7 = .ok (.i2l, 1) := by decide +kernel
theorem dL_saltMinutes_8 : decode cL_saltMinutes 8 = .ok (.lastore, 1) := by decide +kernel
theorem dL_saltMinutes_9 : decode cL_saltMinutes 9 = .ok (.goto 9, 3) := by decide +kernel
theorem dL_saltMinutes_12 : decode cL_saltMinutes 12 = .ok (.astore_n 3, 1) := by decide +kernel
theorem dL_saltMinutes_13 : decode cL_saltMinutes 13 = .ok (.iconst 1, 1) := by decide +kernel
theorem dL_saltMinutes_14 : decode cL_saltMinutes 14 = .ok (.ireturn, 1) := by decide +kernel
theorem dL_saltMinutes_15 : decode cL_saltMinutes 15 = .ok (.astore_n 3, 1) := by decide +kernel
theorem dL_saltMinutes_16 : decode cL_saltMinutes 16 = .ok (.iconst 2, 1) := by decide +kernel
theorem dL_saltMinutes_17 : decode cL_saltMinutes 17 = .ok (.ireturn, 1) := by decide +kernel
theorem dL_saltMinutes_18 : decode cL_saltMinutes 18 = .ok (.iconst 0, 1) := by decide +kernel
theorem dL_saltMinutes_19 : decode cL_saltMinutes 19 = .ok (.ireturn, 1) := by decide +kernel
theorem dL_complaints_0 : decode cL_complaints 0 = .ok (.aload_n 2, 1) := by decide +kernel
theorem dL_complaints_1 : decode cL_complaints 1 = .ok (.iconst 0, 1) := by decide +kernel
theorem dL_complaints_2 : decode cL_complaints 2 = .ok (.aload_n 0, 1) := by decide +kernel
theorem dL_complaints_3 : decode cL_complaints 3 = .ok (.iload_n 1, 1) := by decide +kernel
theorem dL_complaints_4 : decode cL_complaints 4 = .ok (.invokevirtual 75, 3) := by decide +kernel
theorem dL_complaints_7 : decode cL_complaints 7 = .ok (.i2l, 1) := by decide +kernel
theorem dL_complaints_8 : decode cL_complaints 8 = .ok (.lastore, 1) := by decide +kernel
theorem dL_complaints_9 : decode cL_complaints 9 = .ok (.goto 6, 3) := by decide +kernel
theorem dL_complaints_12 : decode cL_complaints 12 = .ok (.astore_n 3, 1) := by decide +kernel
theorem dL_complaints_13 : decode cL_complaints 13 = .ok (.iconst 1, 1) := by decide +kernel
theorem dL_complaints_14 : decode cL_complaints 14 = .ok (.ireturn, 1) := by decide +kernel
theorem dL_complaints_15 : decode cL_complaints 15 = .ok (.iconst 0, 1) := by decide +kernel
theorem dL_complaints_16 : decode cL_complaints 16 = .ok (.ireturn, 1) := by decide +kernel
theorem dL_distance_0 : decode cL_distance 0 = .ok (.aload_n 3, 1) := by decide +kernel
theorem dL_distance_1 : decode cL_distance 1 = .ok (.iconst 0, 1) := by decide +kernel
theorem dL_distance_2 : decode cL_distance 2 = .ok (.aload_n 0, 1) := by decide +kernel
theorem dL_distance_3 : decode cL_distance 3 = .ok (.iload_n 1, 1) := by decide +kernel
theorem dL_distance_4 : decode cL_distance 4 = .ok (.iload_n 2, 1) := by decide +kernel
theorem dL_distance_5 : decode cL_distance 5 = .ok (.invokevirtual 78, 3) := by decide +kernel
theorem dL_distance_8 : decode cL_distance 8 = .ok (.i2l, 1) := by decide +kernel
theorem dL_distance_9 : decode cL_distance 9 = .ok (.lastore, 1) := by decide +kernel
theorem dL_distance_10 : decode cL_distance 10 = .ok (.goto 11, 3) := by decide +kernel
theorem dL_distance_13 : decode cL_distance 13 = .ok (.astore 4, 2) := by decide +kernel
theorem dL_distance_15 : decode cL_distance 15 = .ok (.iconst 1, 1) := by decide +kernel
theorem dL_distance_16 : decode cL_distance 16 = .ok (.ireturn, 1) := by decide +kernel
theorem dL_distance_17 : decode cL_distance 17 = .ok (.astore 4, 2) := by decide +kernel
theorem dL_distance_19 : decode cL_distance 19 = .ok (.iconst 2, 1) := by decide +kernel
theorem dL_distance_20 : decode cL_distance 20 = .ok (.ireturn, 1) := by decide +kernel
theorem dL_distance_21 : decode cL_distance 21 = .ok (.iconst 0, 1) := by decide +kernel
theorem dL_distance_22 : decode cL_distance 22 = .ok (.ireturn, 1) := by decide +kernel
theorem dL_distanceByJunctions_0 : decode cL_distanceByJunctions 0 = .ok (.aload_n 3, 1) := by decide +kernel
theorem dL_distanceByJunctions_1 : decode cL_distanceByJunctions 1 = .ok (.iconst 0, 1) := by decide +kernel
theorem dL_distanceByJunctions_2 : decode cL_distanceByJunctions 2 = .ok (.aload_n 0, 1) := by decide +kernel
theorem dL_distanceByJunctions_3 : decode cL_distanceByJunctions 3 = .ok (.iload_n 1, 1) := by decide +kernel
theorem dL_distanceByJunctions_4 : decode cL_distanceByJunctions 4 = .ok (.iload_n 2, 1) := by decide +kernel
theorem dL_distanceByJunctions_5 : decode cL_distanceByJunctions 5 = .ok (.invokevirtual 81, 3) := by decide +kernel
theorem dL_distanceByJunctions_8 : decode cL_distanceByJunctions 8 = .ok (.i2l, 1) := by decide +kernel
theorem dL_distanceByJunctions_9 : decode cL_distanceByJunctions 9 = .ok (.lastore, 1) := by decide +kernel
theorem dL_distanceByJunctions_10 : decode cL_distanceByJunctions 10 = .ok (.goto 11, 3) := by decide +kernel
theorem dL_distanceByJunctions_13 : decode cL_distanceByJunctions 13 = .ok (.astore 4, 2) := by decide +kernel
theorem dL_distanceByJunctions_15 : decode cL_distanceByJunctions 15 = .ok (.iconst 1, 1) := by decide +kernel
theorem dL_distanceByJunctions_16 : decode cL_distanceByJunctions 16 = .ok (.ireturn, 1) := by decide +kernel
theorem dL_distanceByJunctions_17 : decode cL_distanceByJunctions 17 = .ok (.astore 4, 2) := by decide +kernel
theorem dL_distanceByJunctions_19 : decode cL_distanceByJunctions 19 = .ok (.iconst 2, 1) := by decide +kernel
theorem dL_distanceByJunctions_20 : decode cL_distanceByJunctions 20 = .ok (.ireturn, 1) := by decide +kernel
theorem dL_distanceByJunctions_21 : decode cL_distanceByJunctions 21 = .ok (.iconst 0, 1) := by decide +kernel
theorem dL_distanceByJunctions_22 : decode cL_distanceByJunctions 22 = .ok (.ireturn, 1) := by decide +kernel
theorem dL_streetByUrgency_0 : decode cL_streetByUrgency 0 = .ok (.aload_n 2, 1) := by decide +kernel
theorem dL_streetByUrgency_1 : decode cL_streetByUrgency 1 = .ok (.iconst 0, 1) := by decide +kernel
theorem dL_streetByUrgency_2 : decode cL_streetByUrgency 2 = .ok (.aload_n 0, 1) := by decide +kernel
theorem dL_streetByUrgency_3 : decode cL_streetByUrgency 3 = .ok (.iload_n 1, 1) := by decide +kernel
theorem dL_streetByUrgency_4 : decode cL_streetByUrgency 4 = .ok (.invokevirtual 84, 3) := by decide +kernel
theorem dL_streetByUrgency_7 : decode cL_streetByUrgency 7 = .ok (.i2l, 1) := by decide +kernel
theorem dL_streetByUrgency_8 : decode cL_streetByUrgency 8 = .ok (.lastore, 1) := by decide +kernel
theorem dL_streetByUrgency_9 : decode cL_streetByUrgency 9 = .ok (.goto 6, 3) := by decide +kernel
theorem dL_streetByUrgency_12 : decode cL_streetByUrgency 12 = .ok (.astore_n 3, 1) := by decide +kernel
theorem dL_streetByUrgency_13 : decode cL_streetByUrgency 13 = .ok (.iconst 1, 1) := by decide +kernel
theorem dL_streetByUrgency_14 : decode cL_streetByUrgency 14 = .ok (.ireturn, 1) := by decide +kernel
theorem dL_streetByUrgency_15 : decode cL_streetByUrgency 15 = .ok (.iconst 0, 1) := by decide +kernel
theorem dL_streetByUrgency_16 : decode cL_streetByUrgency 16 = .ok (.ireturn, 1) := by decide +kernel
theorem dL_isBusy_0 : decode cL_isBusy 0 = .ok (.aload_n 2, 1) := by decide +kernel
theorem dL_isBusy_1 : decode cL_isBusy 1 = .ok (.iconst 0, 1) := by decide +kernel
theorem dL_isBusy_2 : decode cL_isBusy 2 = .ok (.aload_n 0, 1) := by decide +kernel
theorem dL_isBusy_3 : decode cL_isBusy 3 = .ok (.iload_n 1, 1) := by decide +kernel
theorem dL_isBusy_4 : decode cL_isBusy 4 = .ok (.invokevirtual 87, 3) := by decide +kernel
theorem dL_isBusy_7 : decode cL_isBusy 7 = .ok (.ifCond .eq 7, 3) := by decide +kernel
theorem dL_isBusy_10 : decode cL_isBusy 10 = .ok (.lconst 1, 1) := by decide +kernel
theorem dL_isBusy_11 : decode cL_isBusy 11 = .ok (.goto 4, 3) := by decide +kernel
theorem dL_isBusy_14 : decode cL_isBusy 14 = .ok (.lconst 0, 1) := by decide +kernel
theorem dL_isBusy_15 : decode cL_isBusy 15 = .ok (.lastore, 1) := by decide +kernel
theorem dL_isBusy_16 : decode cL_isBusy 16 = .ok (.goto 6, 3) := by decide +kernel
theorem dL_isBusy_19 : decode cL_isBusy 19 = .ok (.astore_n 3, 1) := by decide +kernel
theorem dL_isBusy_20 : decode cL_isBusy 20 = .ok (.iconst 1, 1) := by decide +kernel
theorem dL_isBusy_21 : decode cL_isBusy 21 = .ok (.ireturn, 1) := by decide +kernel
theorem dL_isBusy_22 : decode cL_isBusy 22 = .ok (.iconst 0, 1) := by decide +kernel
theorem dL_isBusy_23 : decode cL_isBusy 23 = .ok (.ireturn, 1) := by decide +kernel
theorem dL_junction_0 : decode cL_junction 0 = .ok (.aload_n 2, 1) := by decide +kernel
theorem dL_junction_1 : decode cL_junction 1 = .ok (.iconst 0, 1) := by decide +kernel
theorem dL_junction_2 : decode cL_junction 2 = .ok (.aload_n 0, 1) := by decide +kernel
theorem dL_junction_3 : decode cL_junction 3 = .ok (.iload_n 1, 1) := by decide +kernel
theorem dL_junction_4 : decode cL_junction 4 = .ok (.invokevirtual 90, 3) := by decide +kernel
theorem dL_junction_7 : decode cL_junction 7 = .ok (.i2l, 1) := by decide +kernel
theorem dL_junction_8 : decode cL_junction 8 = .ok (.lastore, 1) := by decide +kernel
theorem dL_junction_9 : decode cL_junction 9 = .ok (.goto 6, 3) := by decide +kernel
theorem dL_junction_12 : decode cL_junction 12 = .ok (.astore_n 3, 1) := by decide +kernel
theorem dL_junction_13 : decode cL_junction 13 = .ok (.iconst 1, 1) := by decide +kernel
theorem dL_junction_14 : decode cL_junction 14 = .ok (.ireturn, 1) := by decide +kernel
theorem dL_junction_15 : decode cL_junction 15 = .ok (.iconst 0, 1) := by decide +kernel
theorem dL_junction_16 : decode cL_junction 16 = .ok (.ireturn, 1) := by decide +kernel
theorem dL_currentStreet_0 : decode cL_currentStreet 0 = .ok (.aload_n 2, 1) := by decide +kernel
theorem dL_currentStreet_1 : decode cL_currentStreet 1 = .ok (.iconst 0, 1) := by decide +kernel
theorem dL_currentStreet_2 : decode cL_currentStreet 2 = .ok (.aload_n 0, 1) := by decide +kernel
theorem dL_currentStreet_3 : decode cL_currentStreet 3 = .ok (.iload_n 1, 1) := by decide +kernel
theorem dL_currentStreet_4 : decode cL_currentStreet 4 = .ok (.invokevirtual 93, 3) := by decide +kernel
theorem dL_currentStreet_7 : decode cL_currentStreet 7 = .ok (.i2l, 1) := by decide +kernel
theorem dL_currentStreet_8 : decode cL_currentStreet 8 = .ok (.lastore, 1) := by decide +kernel
theorem dL_currentStreet_9 : decode cL_currentStreet 9 = .ok (.goto 9, 3) := by decide +kernel
theorem dL_currentStreet_12 : decode cL_currentStreet 12 = .ok (.astore_n 3, 1) := by decide +kernel
theorem dL_currentStreet_13 : decode cL_currentStreet 13 = .ok (.iconst 1, 1) := by decide +kernel
theorem dL_currentStreet_14 : decode cL_currentStreet 14 = .ok (.ireturn, 1) := by decide +kernel
theorem dL_currentStreet_15 : decode cL_currentStreet 15 = .ok (.astore_n 3, 1) := by decide +kernel
theorem dL_currentStreet_16 : decode cL_currentStreet 16 = .ok (.iconst 2, 1) := by decide +kernel
theorem dL_currentStreet_17 : decode cL_currentStreet 17 = .ok (.ireturn, 1) := by decide +kernel
theorem dL_currentStreet_18 : decode cL_currentStreet 18 = .ok (.iconst 0, 1) := by decide +kernel
theorem dL_currentStreet_19 : decode cL_currentStreet 19 = .ok (.ireturn, 1) := by decide +kernel
theorem dL_busyMinutes_0 : decode cL_busyMinutes 0 = .ok (.aload_n 2, 1) := by decide +kernel
theorem dL_busyMinutes_1 : decode cL_busyMinutes 1 = .ok (.iconst 0, 1) := by decide +kernel
theorem dL_busyMinutes_2 : decode cL_busyMinutes 2 = .ok (.aload_n 0, 1) := by decide +kernel
theorem dL_busyMinutes_3 : decode cL_busyMinutes 3 = .ok (.iload_n 1, 1) := by decide +kernel
theorem dL_busyMinutes_4 : decode cL_busyMinutes 4 = .ok (.invokevirtual 96, 3) := by decide +kernel
theorem dL_busyMinutes_7 : decode cL_busyMinutes 7 = .ok (.i2l, 1) := by decide +kernel
theorem dL_busyMinutes_8 : decode cL_busyMinutes 8 = .ok (.lastore, 1) := by decide +kernel
theorem dL_busyMinutes_9 : decode cL_busyMinutes 9 = .ok (.goto 6, 3) := by decide +kernel
theorem dL_busyMinutes_12 : decode cL_busyMinutes 12 = .ok (.astore_n 3, 1) := by decide +kernel
theorem dL_busyMinutes_13 : decode cL_busyMinutes 13 = .ok (.iconst 1, 1) := by decide +kernel
theorem dL_busyMinutes_14 : decode cL_busyMinutes 14 = .ok (.ireturn, 1) := by decide +kernel
theorem dL_busyMinutes_15 : decode cL_busyMinutes 15 = .ok (.iconst 0, 1) := by decide +kernel
theorem dL_busyMinutes_16 : decode cL_busyMinutes 16 = .ok (.ireturn, 1) := by decide +kernel
theorem dL_queueLength_0 : decode cL_queueLength 0 = .ok (.aload_n 2, 1) := by decide +kernel
theorem dL_queueLength_1 : decode cL_queueLength 1 = .ok (.iconst 0, 1) := by decide +kernel
theorem dL_queueLength_2 : decode cL_queueLength 2 = .ok (.aload_n 0, 1) := by decide +kernel
theorem dL_queueLength_3 : decode cL_queueLength 3 = .ok (.iload_n 1, 1) := by decide +kernel
theorem dL_queueLength_4 : decode cL_queueLength 4 = .ok (.invokevirtual 99, 3) := by decide +kernel
theorem dL_queueLength_7 : decode cL_queueLength 7 = .ok (.i2l, 1) := by decide +kernel
theorem dL_queueLength_8 : decode cL_queueLength 8 = .ok (.lastore, 1) := by decide +kernel
theorem dL_queueLength_9 : decode cL_queueLength 9 = .ok (.goto 6, 3) := by decide +kernel
theorem dL_queueLength_12 : decode cL_queueLength 12 = .ok (.astore_n 3, 1) := by decide +kernel
theorem dL_queueLength_13 : decode cL_queueLength 13 = .ok (.iconst 1, 1) := by decide +kernel
theorem dL_queueLength_14 : decode cL_queueLength 14 = .ok (.ireturn, 1) := by decide +kernel
theorem dL_queueLength_15 : decode cL_queueLength 15 = .ok (.iconst 0, 1) := by decide +kernel
theorem dL_queueLength_16 : decode cL_queueLength 16 = .ok (.ireturn, 1) := by decide +kernel
theorem dL_queuedStreet_0 : decode cL_queuedStreet 0 = .ok (.aload_n 3, 1) := by decide +kernel
theorem dL_queuedStreet_1 : decode cL_queuedStreet 1 = .ok (.iconst 0, 1) := by decide +kernel
theorem dL_queuedStreet_2 : decode cL_queuedStreet 2 = .ok (.aload_n 0, 1) := by decide +kernel
theorem dL_queuedStreet_3 : decode cL_queuedStreet 3 = .ok (.iload_n 1, 1) := by decide +kernel
theorem dL_queuedStreet_4 : decode cL_queuedStreet 4 = .ok (.iload_n 2, 1) := by decide +kernel
theorem dL_queuedStreet_5 : decode cL_queuedStreet 5 = .ok (.invokevirtual 102, 3) := by decide +kernel
theorem dL_queuedStreet_8 : decode cL_queuedStreet 8 = .ok (.i2l, 1) := by decide +kernel
theorem dL_queuedStreet_9 : decode cL_queuedStreet 9 = .ok (.lastore, 1) := by decide +kernel
theorem dL_queuedStreet_10 : decode cL_queuedStreet 10 = .ok (.goto 11, 3) := by decide +kernel
theorem dL_queuedStreet_13 : decode cL_queuedStreet 13 = .ok (.astore 4, 2) := by decide +kernel
theorem dL_queuedStreet_15 : decode cL_queuedStreet 15 = .ok (.iconst 1, 1) := by decide +kernel
theorem dL_queuedStreet_16 : decode cL_queuedStreet 16 = .ok (.ireturn, 1) := by decide +kernel
theorem dL_queuedStreet_17 : decode cL_queuedStreet 17 = .ok (.astore 4, 2) := by decide +kernel
theorem dL_queuedStreet_19 : decode cL_queuedStreet 19 = .ok (.iconst 2, 1) := by decide +kernel
theorem dL_queuedStreet_20 : decode cL_queuedStreet 20 = .ok (.ireturn, 1) := by decide +kernel
theorem dL_queuedStreet_21 : decode cL_queuedStreet 21 = .ok (.iconst 0, 1) := by decide +kernel
theorem dL_queuedStreet_22 : decode cL_queuedStreet 22 = .ok (.ireturn, 1) := by decide +kernel
theorem dL_orderMinutes_0 : decode cL_orderMinutes 0 = .ok (.aload_n 3, 1) := by decide +kernel
theorem dL_orderMinutes_1 : decode cL_orderMinutes 1 = .ok (.iconst 0, 1) := by decide +kernel
theorem dL_orderMinutes_2 : decode cL_orderMinutes 2 = .ok (.aload_n 0, 1) := by decide +kernel
theorem dL_orderMinutes_3 : decode cL_orderMinutes 3 = .ok (.iload_n 1, 1) := by decide +kernel
theorem dL_orderMinutes_4 : decode cL_orderMinutes 4 = .ok (.iload_n 2, 1) := by decide +kernel
theorem dL_orderMinutes_5 : decode cL_orderMinutes 5 = .ok (.invokevirtual 105, 3) := by decide +kernel
theorem dL_orderMinutes_8 : decode cL_orderMinutes 8 = .ok (.i2l, 1) := by decide +kernel
theorem dL_orderMinutes_9 : decode cL_orderMinutes 9 = .ok (.lastore, 1) := by decide +kernel
theorem dL_orderMinutes_10 : decode cL_orderMinutes 10 = .ok (.goto 11, 3) := by decide +kernel
theorem dL_orderMinutes_13 : decode cL_orderMinutes 13 = .ok (.astore 4, 2) := by decide +kernel
theorem dL_orderMinutes_15 : decode cL_orderMinutes 15 = .ok (.iconst 1, 1) := by decide +kernel
theorem dL_orderMinutes_16 : decode cL_orderMinutes 16 = .ok (.ireturn, 1) := by decide +kernel
theorem dL_orderMinutes_17 : decode cL_orderMinutes 17 = .ok (.astore 4, 2) := by decide +kernel
theorem dL_orderMinutes_19 : decode cL_orderMinutes 19 = .ok (.iconst 2, 1) := by decide +kernel
theorem dL_orderMinutes_20 : decode cL_orderMinutes 20 = .ok (.ireturn, 1) := by decide +kernel
theorem dL_orderMinutes_21 : decode cL_orderMinutes 21 = .ok (.iconst 0, 1) := by decide +kernel
theorem dL_orderMinutes_22 : decode cL_orderMinutes 22 = .ok (.ireturn, 1) := by decide +kernel
theorem dL_minutesUntilCleared_0 : decode cL_minutesUntilCleared 0 = .ok (.aload_n 2, 1) := by decide +kernel
theorem dL_minutesUntilCleared_1 : decode cL_minutesUntilCleared 1 = .ok (.iconst 0, 1) := by decide +kernel
theorem dL_minutesUntilCleared_2 : decode cL_minutesUntilCleared 2 = .ok (.aload_n 0, 1) := by decide +kernel
theorem dL_minutesUntilCleared_3 : decode cL_minutesUntilCleared 3 = .ok (.iload_n 1, 1) := by decide +kernel
theorem dL_minutesUntilCleared_4 : decode cL_minutesUntilCleared 4 = .ok (.invokevirtual 108, 3) := by decide +kernel
theorem dL_minutesUntilCleared_7 : decode cL_minutesUntilCleared 7 = .ok (.i2l, 1) := by decide +kernel
theorem dL_minutesUntilCleared_8 : decode cL_minutesUntilCleared 8 = .ok (.lastore, 1) := by decide +kernel
theorem dL_minutesUntilCleared_9 : decode cL_minutesUntilCleared 9 = .ok (.goto 9, 3) := by decide +kernel
theorem dL_minutesUntilCleared_12 : decode cL_minutesUntilCleared 12 = .ok (.astore_n 3, 1) := by decide +kernel
theorem dL_minutesUntilCleared_13 : decode cL_minutesUntilCleared 13 = .ok (.iconst 1, 1) := by decide +kernel
theorem dL_minutesUntilCleared_14 : decode cL_minutesUntilCleared 14 = .ok (.ireturn, 1) := by decide +kernel
theorem dL_minutesUntilCleared_15 : decode cL_minutesUntilCleared 15 = .ok (.astore_n 3, 1) := by decide +kernel
theorem dL_minutesUntilCleared_16 : decode cL_minutesUntilCleared 16 = .ok (.iconst 2, 1) := by decide +kernel
theorem dL_minutesUntilCleared_17 : decode cL_minutesUntilCleared 17 = .ok (.ireturn, 1) := by decide +kernel
theorem dL_minutesUntilCleared_18 : decode cL_minutesUntilCleared 18 = .ok (.iconst 0, 1) := by decide +kernel
theorem dL_minutesUntilCleared_19 : decode cL_minutesUntilCleared 19 = .ok (.ireturn, 1) := by decide +kernel
theorem dL_depthAfter_0 : decode cL_depthAfter 0 = .ok (.aload_n 3, 1) := by decide +kernel
theorem dL_depthAfter_1 : decode cL_depthAfter 1 = .ok (.iconst 0, 1) := by decide +kernel
theorem dL_depthAfter_2 : decode cL_depthAfter 2 = .ok (.aload_n 0, 1) := by decide +kernel
theorem dL_depthAfter_3 : decode cL_depthAfter 3 = .ok (.iload_n 1, 1) := by decide +kernel
theorem dL_depthAfter_4 : decode cL_depthAfter 4 = .ok (.iload_n 2, 1) := by decide +kernel
theorem dL_depthAfter_5 : decode cL_depthAfter 5 = .ok (.invokevirtual 111, 3) := by decide +kernel
theorem dL_depthAfter_8 : decode cL_depthAfter 8 = .ok (.i2l, 1) := by decide +kernel
theorem dL_depthAfter_9 : decode cL_depthAfter 9 = .ok (.lastore, 1) := by decide +kernel
theorem dL_depthAfter_10 : decode cL_depthAfter 10 = .ok (.goto 11, 3) := by decide +kernel
theorem dL_depthAfter_13 : decode cL_depthAfter 13 = .ok (.astore 4, 2) := by decide +kernel
theorem dL_depthAfter_15 : decode cL_depthAfter 15 = .ok (.iconst 1, 1) := by decide +kernel
theorem dL_depthAfter_16 : decode cL_depthAfter 16 = .ok (.ireturn, 1) := by decide +kernel
theorem dL_depthAfter_17 : decode cL_depthAfter 17 = .ok (.astore 4, 2) := by decide +kernel
theorem dL_depthAfter_19 : decode cL_depthAfter 19 = .ok (.iconst 2, 1) := by decide +kernel
theorem dL_depthAfter_20 : decode cL_depthAfter 20 = .ok (.ireturn, 1) := by decide +kernel
theorem dL_depthAfter_21 : decode cL_depthAfter 21 = .ok (.iconst 0, 1) := by decide +kernel
theorem dL_depthAfter_22 : decode cL_depthAfter 22 = .ok (.ireturn, 1) := by decide +kernel
theorem dL_meanDepth_0 : decode cL_meanDepth 0 = .ok (.aload_n 1, 1) := by decide +kernel
theorem dL_meanDepth_1 : decode cL_meanDepth 1 = .ok (.iconst 0, 1) := by decide +kernel
theorem dL_meanDepth_2 : decode cL_meanDepth 2 = .ok (.aload_n 0, 1) := by decide +kernel
theorem dL_meanDepth_3 : decode cL_meanDepth 3 = .ok (.invokevirtual 114, 3) := by decide +kernel
theorem dL_meanDepth_6 : decode cL_meanDepth 6 = .ok (.dastore, 1) := by decide +kernel
theorem dL_meanDepth_7 : decode cL_meanDepth 7 = .ok (.goto 6, 3) := by decide +kernel
theorem dL_meanDepth_10 : decode cL_meanDepth 10 = .ok (.astore_n 2, 1) := by decide +kernel
theorem dL_meanDepth_11 : decode cL_meanDepth 11 = .ok (.iconst 1, 1) := by decide +kernel
theorem dL_meanDepth_12 : decode cL_meanDepth 12 = .ok (.ireturn, 1) := by decide +kernel
theorem dL_meanDepth_13 : decode cL_meanDepth 13 = .ok (.iconst 0, 1) := by decide +kernel
theorem dL_meanDepth_14 : decode cL_meanDepth 14 = .ok (.ireturn, 1) := by decide +kernel
theorem dL_saltedShare_0 : decode cL_saltedShare 0 = .ok (.aload_n 1, 1) := by decide +kernel
theorem dL_saltedShare_1 : decode cL_saltedShare 1 = .ok (.iconst 0, 1) := by decide +kernel
theorem dL_saltedShare_2 : decode cL_saltedShare 2 = .ok (.aload_n 0, 1) := by decide +kernel
theorem dL_saltedShare_3 : decode cL_saltedShare 3 = .ok (.invokevirtual 120, 3) := by decide +kernel
theorem dL_saltedShare_6 : decode cL_saltedShare 6 = .ok (.f2d, 1) := by decide +kernel
theorem dL_saltedShare_7 : decode cL_saltedShare 7 = .ok (.dastore, 1) := by decide +kernel
theorem dL_saltedShare_8 : decode cL_saltedShare 8 = .ok (.goto 6, 3) := by decide +kernel
theorem dL_saltedShare_11 : decode cL_saltedShare 11 = .ok (.astore_n 2, 1) := by decide +kernel
theorem dL_saltedShare_12 : decode cL_saltedShare 12 = .ok (.iconst 1, 1) := by decide +kernel
theorem dL_saltedShare_13 : decode cL_saltedShare 13 = .ok (.ireturn, 1) := by decide +kernel
theorem dL_saltedShare_14 : decode cL_saltedShare 14 = .ok (.iconst 0, 1) := by decide +kernel
theorem dL_saltedShare_15 : decode cL_saltedShare 15 = .ok (.ireturn, 1) := by decide +kernel
theorem dL_renderStreet_0 : decode cL_renderStreet 0 = .ok (.aload_n 2, 1) := by decide +kernel
theorem dL_renderStreet_1 : decode cL_renderStreet 1 = .ok (.iconst 0, 1) := by decide +kernel
theorem dL_renderStreet_2 : decode cL_renderStreet 2 = .ok (.aload_n 0, 1) := by decide +kernel
theorem dL_renderStreet_3 : decode cL_renderStreet 3 = .ok (.iload_n 1, 1) := by decide +kernel
theorem dL_renderStreet_4 : decode cL_renderStreet 4 = .ok (.invokevirtual 124, 3) := by decide +kernel
theorem dL_renderStreet_7 : decode cL_renderStreet 7 = .ok (.i2l, 1) := by decide +kernel
theorem dL_renderStreet_8 : decode cL_renderStreet 8 = .ok (.lastore, 1) := by decide +kernel
theorem dL_renderStreet_9 : decode cL_renderStreet 9 = .ok (.goto 6, 3) := by decide +kernel
theorem dL_renderStreet_12 : decode cL_renderStreet 12 = .ok (.astore_n 3, 1) := by decide +kernel
theorem dL_renderStreet_13 : decode cL_renderStreet 13 = .ok (.iconst 1, 1) := by decide +kernel
theorem dL_renderStreet_14 : decode cL_renderStreet 14 = .ok (.ireturn, 1) := by decide +kernel
theorem dL_renderStreet_15 : decode cL_renderStreet 15 = .ok (.iconst 0, 1) := by decide +kernel
theorem dL_renderStreet_16 : decode cL_renderStreet 16 = .ok (.ireturn, 1) := by decide +kernel
theorem dL_renderQueue_0 : decode cL_renderQueue 0 = .ok (.aload_n 2, 1) := by decide +kernel
theorem dL_renderQueue_1 : decode cL_renderQueue 1 = .ok (.iconst 0, 1) := by decide +kernel
theorem dL_renderQueue_2 : decode cL_renderQueue 2 = .ok (.aload_n 0, 1) := by decide +kernel
theorem dL_renderQueue_3 : decode cL_renderQueue 3 = .ok (.iload_n 1, 1) := by decide +kernel
theorem dL_renderQueue_4 : decode cL_renderQueue 4 = .ok (.invokevirtual 127, 3) := by decide +kernel
theorem dL_renderQueue_7 : decode cL_renderQueue 7 = .ok (.i2l, 1) := by decide +kernel
theorem dL_renderQueue_8 : decode cL_renderQueue 8 = .ok (.lastore, 1) := by decide +kernel
theorem dL_renderQueue_9 : decode cL_renderQueue 9 = .ok (.goto 6, 3) := by decide +kernel
theorem dL_renderQueue_12 : decode cL_renderQueue 12 = .ok (.astore_n 3, 1) := by decide +kernel
theorem dL_renderQueue_13 : decode cL_renderQueue 13 = .ok (.iconst 1, 1) := by decide +kernel
theorem dL_renderQueue_14 : decode cL_renderQueue 14 = .ok (.ireturn, 1) := by decide +kernel
theorem dL_renderQueue_15 : decode cL_renderQueue 15 = .ok (.iconst 0, 1) := by decide +kernel
theorem dL_renderQueue_16 : decode cL_renderQueue 16 = .ok (.ireturn, 1) := by decide +kernel
theorem dL_outputAt_0 : decode cL_outputAt 0 = .ok (.aload_n 2, 1) := by decide +kernel
theorem dL_outputAt_1 : decode cL_outputAt 1 = .ok (.iconst 0, 1) := by decide +kernel
theorem dL_outputAt_2 : decode cL_outputAt 2 = .ok (.aload_n 0, 1) := by decide +kernel
theorem dL_outputAt_3 : decode cL_outputAt 3 = .ok (.iload_n 1, 1) := by decide +kernel
theorem dL_outputAt_4 : decode cL_outputAt 4 = .ok (.invokevirtual 130, 3) := by decide +kernel
theorem dL_outputAt_7 : decode cL_outputAt 7 = .ok (.i2l, 1) := by decide +kernel
theorem dL_outputAt_8 : decode cL_outputAt 8 = .ok (.lastore, 1) := by decide +kernel
theorem dL_outputAt_9 : decode cL_outputAt 9 = .ok (.goto 6, 3) := by decide +kernel
theorem dL_outputAt_12 : decode cL_outputAt 12 = .ok (.astore_n 3, 1) := by decide +kernel
theorem dL_outputAt_13 : decode cL_outputAt 13 = .ok (.iconst 1, 1) := by decide +kernel
theorem dL_outputAt_14 : decode cL_outputAt 14 = .ok (.ireturn, 1) := by decide +kernel
theorem dL_outputAt_15 : decode cL_outputAt 15 = .ok (.iconst 0, 1) := by decide +kernel
theorem dL_outputAt_16 : decode cL_outputAt 16 = .ok (.ireturn, 1) := by decide +kernel
theorem dL_type_0 : decode cL_type 0 = .ok (.aload_n 2, 1) := by decide +kernel
theorem dL_type_1 : decode cL_type 1 = .ok (.iconst 0, 1) := by decide +kernel
theorem dL_type_2 : decode cL_type 2 = .ok (.aload_n 0, 1) := by decide +kernel
theorem dL_type_3 : decode cL_type 3 = .ok (.iload_n 1, 1) := by decide +kernel
theorem dL_type_4 : decode cL_type 4 = .ok (.invokevirtual 133, 3) := by decide +kernel
theorem dL_type_7 : decode cL_type 7 = .ok (.i2l, 1) := by decide +kernel
theorem dL_type_8 : decode cL_type 8 = .ok (.lastore, 1) := by decide +kernel
theorem dL_type_9 : decode cL_type 9 = .ok (.goto 9, 3) := by decide +kernel
theorem dL_type_12 : decode cL_type 12 = .ok (.astore_n 3, 1) := by decide +kernel
theorem dL_type_13 : decode cL_type 13 = .ok (.iconst 1, 1) := by decide +kernel
theorem dL_type_14 : decode cL_type 14 = .ok (.ireturn, 1) := by decide +kernel
theorem dL_type_15 : decode cL_type 15 = .ok (.astore_n 3, 1) := by decide +kernel
theorem dL_type_16 : decode cL_type 16 = .ok (.iconst 2, 1) := by decide +kernel
theorem dL_type_17 : decode cL_type 17 = .ok (.ireturn, 1) := by decide +kernel
theorem dL_type_18 : decode cL_type 18 = .ok (.iconst 0, 1) := by decide +kernel
theorem dL_type_19 : decode cL_type 19 = .ok (.ireturn, 1) := by decide +kernel
theorem dL_runScript_0 : decode cL_runScript 0 = .ok (.aload_n 1, 1) := by decide +kernel
theorem dL_runScript_1 : decode cL_runScript 1 = .ok (.iconst 0, 1) := by decide +kernel
theorem dL_runScript_2 : decode cL_runScript 2 = .ok (.aload_n 0, 1) := by decide +kernel
theorem dL_runScript_3 : decode cL_runScript 3 = .ok (.invokevirtual 137, 3) := by decide +kernel
theorem dL_runScript_6 : decode cL_runScript 6 = .ok (.i2l, 1) := by decide +kernel
theorem dL_runScript_7 : decode cL_runScript 7 = .ok (.lastore, 1) := by decide +kernel
theorem dL_runScript_8 : decode cL_runScript 8 = .ok (.goto 9, 3) := by decide +kernel
theorem dL_runScript_11 : decode cL_runScript 11 = .ok (.astore_n 2, 1) := by decide +kernel
theorem dL_runScript_12 : decode cL_runScript 12 = .ok (.iconst 1, 1) := by decide +kernel
theorem dL_runScript_13 : decode cL_runScript 13 = .ok (.ireturn, 1) := by decide +kernel
theorem dL_runScript_14 : decode cL_runScript 14 = .ok (.astore_n 2, 1) := by decide +kernel
theorem dL_runScript_15 : decode cL_runScript 15 = .ok (.iconst 2, 1) := by decide +kernel
theorem dL_runScript_16 : decode cL_runScript 16 = .ok (.ireturn, 1) := by decide +kernel
theorem dL_runScript_17 : decode cL_runScript 17 = .ok (.iconst 0, 1) := by decide +kernel
theorem dL_runScript_18 : decode cL_runScript 18 = .ok (.ireturn, 1) := by decide +kernel
theorem dL_errorPosition_0 : decode cL_errorPosition 0 = .ok (.aload_n 1, 1) := by decide +kernel
theorem dL_errorPosition_1 : decode cL_errorPosition 1 = .ok (.iconst 0, 1) := by decide +kernel
theorem dL_errorPosition_2 : decode cL_errorPosition 2 = .ok (.aload_n 0, 1) := by decide +kernel
theorem dL_errorPosition_3 : decode cL_errorPosition 3 = .ok (.invokevirtual 141, 3) := by decide +kernel
theorem dL_errorPosition_6 : decode cL_errorPosition 6 = .ok (.i2l, 1) := by decide +kernel
theorem dL_errorPosition_7 : decode cL_errorPosition 7 = .ok (.lastore, 1) := by decide +kernel
theorem dL_errorPosition_8 : decode cL_errorPosition 8 = .ok (.goto 6, 3) := by decide +kernel
theorem dL_errorPosition_11 : decode cL_errorPosition 11 = .ok (.astore_n 2, 1) := by decide +kernel
theorem dL_errorPosition_12 : decode cL_errorPosition 12 = .ok (.iconst 1, 1) := by decide +kernel
theorem dL_errorPosition_13 : decode cL_errorPosition 13 = .ok (.ireturn, 1) := by decide +kernel
theorem dL_errorPosition_14 : decode cL_errorPosition 14 = .ok (.iconst 0, 1) := by decide +kernel
theorem dL_errorPosition_15 : decode cL_errorPosition 15 = .ok (.ireturn, 1) := by decide +kernel
theorem dL_failedCommand_0 : decode cL_failedCommand 0 = .ok (.aload_n 1, 1) := by decide +kernel
theorem dL_failedCommand_1 : decode cL_failedCommand 1 = .ok (.iconst 0, 1) := by decide +kernel
theorem dL_failedCommand_2 : decode cL_failedCommand 2 = .ok (.aload_n 0, 1) := by decide +kernel
theorem dL_failedCommand_3 : decode cL_failedCommand 3 = .ok (.invokevirtual 144, 3) := by decide +kernel
theorem dL_failedCommand_6 : decode cL_failedCommand 6 = .ok (.i2l, 1) := by decide +kernel
theorem dL_failedCommand_7 : decode cL_failedCommand 7 = .ok (.lastore, 1) := by decide +kernel
theorem dL_failedCommand_8 : decode cL_failedCommand 8 = .ok (.goto 6, 3) := by decide +kernel
theorem dL_failedCommand_11 : decode cL_failedCommand 11 = .ok (.astore_n 2, 1) := by decide +kernel
theorem dL_failedCommand_12 : decode cL_failedCommand 12 = .ok (.iconst 1, 1) := by decide +kernel
theorem dL_failedCommand_13 : decode cL_failedCommand 13 = .ok (.ireturn, 1) := by decide +kernel
theorem dL_failedCommand_14 : decode cL_failedCommand 14 = .ok (.iconst 0, 1) := by decide +kernel
theorem dL_failedCommand_15 : decode cL_failedCommand 15 = .ok (.ireturn, 1) := by decide +kernel
theorem dL_undo_0 : decode cL_undo 0 = .ok (.aload_n 1, 1) := by decide +kernel
theorem dL_undo_1 : decode cL_undo 1 = .ok (.iconst 0, 1) := by decide +kernel
theorem dL_undo_2 : decode cL_undo 2 = .ok (.aload_n 0, 1) := by decide +kernel
theorem dL_undo_3 : decode cL_undo 3 = .ok (.invokevirtual 147, 3) := by decide +kernel
theorem dL_undo_6 : decode cL_undo 6 = .ok (.i2l, 1) := by decide +kernel
theorem dL_undo_7 : decode cL_undo 7 = .ok (.lastore, 1) := by decide +kernel
theorem dL_undo_8 : decode cL_undo 8 = .ok (.goto 6, 3) := by decide +kernel
theorem dL_undo_11 : decode cL_undo 11 = .ok (.astore_n 2, 1) := by decide +kernel
theorem dL_undo_12 : decode cL_undo 12 = .ok (.iconst 1, 1) := by decide +kernel
theorem dL_undo_13 : decode cL_undo 13 = .ok (.ireturn, 1) := by decide +kernel
theorem dL_undo_14 : decode cL_undo 14 = .ok (.iconst 0, 1) := by decide +kernel
theorem dL_undo_15 : decode cL_undo 15 = .ok (.ireturn, 1) := by decide +kernel
theorem dL_restore_0 : decode cL_restore 0 = .ok (.aload_n 1, 1) := by decide +kernel
theorem dL_restore_1 : decode cL_restore 1 = .ok (.iconst 0, 1) := by decide +kernel
theorem dL_restore_2 : decode cL_restore 2 = .ok (.aload_n 0, 1) := by decide +kernel
theorem dL_restore_3 : decode cL_restore 3 = .ok (.invokevirtual 150, 3) := by decide +kernel
theorem dL_restore_6 : decode cL_restore 6 = .ok (.i2l, 1) := by decide +kernel
theorem dL_restore_7 : decode cL_restore 7 = .ok (.lastore, 1) := by decide +kernel
theorem dL_restore_8 : decode cL_restore 8 = .ok (.goto 6, 3) := by decide +kernel
theorem dL_restore_11 : decode cL_restore 11 = .ok (.astore_n 2, 1) := by decide +kernel
theorem dL_restore_12 : decode cL_restore 12 = .ok (.iconst 1, 1) := by decide +kernel
theorem dL_restore_13 : decode cL_restore 13 = .ok (.ireturn, 1) := by decide +kernel
theorem dL_restore_14 : decode cL_restore 14 = .ok (.iconst 0, 1) := by decide +kernel
theorem dL_restore_15 : decode cL_restore 15 = .ok (.ireturn, 1) := by decide +kernel
