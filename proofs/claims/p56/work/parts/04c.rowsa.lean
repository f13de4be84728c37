set_option maxRecDepth 20000 in
theorem ggX6_addStreet_X0_write : GoodIn wsX6_addStreet wsX0_write := goodIn_r _ [13, 14, 15, 16, 12, 17, 18, 19, 20, 21, 22, 23, 24, 25, 26, 27, 28, 29, 30, 31, 32, 33, 34, 35, 36, 37, 38, 39, 40, 41, 42, 43, 44, 45, 46, 47, 48, 49, 50, 51, 52, 53, 54, 55, 56, 57, 58, 59, 60, 61, 62, 63, 64, 103, 104, 105, 106, 107, 108, 109, 110, 111, 112, 113, 114, 115, 116, 117, 118, 119, 120, 121, 122, 123, 124, 125, 126, 127, 128, 129, 130, 131] (by decide +kernel) (by decide +kernel)
set_option maxRecDepth 20000 in
theorem gX6_addStreet_X0_write : GoodIn wsX6_addStreet (wsV RX6 63 RX0 yX0_write wsX0_write) := goodIn_app (goodIn_of _ (by decide +kernel)) ggX6_addStreet_X0_write
set_option maxRecDepth 20000 in
theorem ggX6_addStreet_X5_putStreet : GoodIn wsX6_addStreet wsX5_putStreet := goodIn_ca (goodIn_r _ [68, 69, 70, 71, 72, 73, 74, 75, 25, 76, 77, 78, 79, 80, 81, 38, 82, 52, 40, 45, 83, 84, 85, 86, 46, 47, 48, 49, 50, 51, 106, 107, 108, 109, 110, 111, 112, 113, 114, 115, 116, 117, 118, 119, 120, 121, 122, 123, 124, 125] (by decide +kernel) (by decide +kernel)) (goodIn_sub (fun _ h => List.mem_cons_of_mem _ (List.mem_append_right _ h)) (by decide +kernel))
set_option maxRecDepth 20000 in
theorem gX6_addStreet_X5_putStreet : GoodIn wsX6_addStreet (wsV RX6 67 RX5 yX5_putStreet wsX5_putStreet) := goodIn_app (goodIn_of _ (by decide +kernel)) ggX6_addStreet_X5_putStreet
set_option maxRecDepth 20000 in
theorem ggX6_addStreet_X0_push : GoodIn wsX6_addStreet wsX0_push := goodIn_r _ [90, 18, 91, 92, 70, 71, 72, 103, 104, 105] (by decide +kernel) (by decide +kernel)
set_option maxRecDepth 20000 in
theorem gX6_addStreet_X0_push : GoodIn wsX6_addStreet (wsV RX6 88 RX0 yX0_push wsX0_push) := goodIn_app (goodIn_of _ (by decide +kernel)) ggX6_addStreet_X0_push
theorem dX6_addStreet_0 : decode cX6_addStreet 0 = .ok (.aload_n 0, 1) := by decide +kernel
theorem dX6_addStreet_1 : decode cX6_addStreet 1 = .ok (.getfield 34, 3) := by decide +kernel
theorem dX6_addStreet_4 : decode cX6_addStreet 4 = .ok (.aload_n 0, 1) := by decide +kernel
theorem dX6_addStreet_5 : decode cX6_addStreet 5 = .ok (.getfield 21, 3) := by decide +kernel
theorem dX6_addStreet_8 : decode cX6_addStreet 8 = .ok (.invokevirtual 63, 3) := by decide +kernel
theorem dX6_addStreet_11 : decode cX6_addStreet 11 = .ok (.aload_n 0, 1) := by decide +kernel
theorem dX6_addStreet_12 : decode cX6_addStreet 12 = .ok (.getfield 21, 3) := by decide +kernel
theorem dX6_addStreet_15 : decode cX6_addStreet 15 = .ok (.iload_n 1, 1) := by decide +kernel
theorem dX6_addStreet_16 : decode cX6_addStreet 16 = .ok (.iload_n 2, 1) := by decide +kernel
theorem dX6_addStreet_17 : decode cX6_addStreet 17 = .ok (.iload_n 3, 1) := by decide +kernel
theorem dX6_addStreet_18 : decode cX6_addStreet 18 = .ok (.iload 4, 2) := by decide +kernel
theorem dX6_addStreet_20 : decode cX6_addStreet 20 = .ok (.invokevirtual 67, 3) := by decide +kernel
theorem dX6_addStreet_23 : decode cX6_addStreet 23 = .ok (.istore 5, 2) := by decide +kernel
theorem dX6_addStreet_25 : decode cX6_addStreet 25 = .ok (.iload 5, 2) := by decide +kernel
theorem dX6_addStreet_27 : decode cX6_addStreet 27 = .ok (.iconst (-1), 1) := by decide +kernel
theorem dX6_addStreet_28 : decode cX6_addStreet 28 = .ok (.if_icmp .ne 13, 3) := by decide +kernel
theorem dX6_addStreet_31 : decode cX6_addStreet 31 = .ok (.new 71, 3) := by decide +kernel
theorem dX6_addStreet_34 : decode cX6_addStreet 34 = .ok (.dup, 1) := by decide +kernel
theorem dX6_addStreet_35 : decode cX6_addStreet 35 = .ok (.ldc 73, 2) := by decide +kernel
theorem dX6_addStreet_37 : decode cX6_addStreet 37 = .ok (.invokespecial 75, 3) := by decide +kernel
theorem dX6_addStreet_40 : decode cX6_addStreet 40 = .ok (.athrow, 1) := by decide +kernel
theorem dX6_addStreet_41 : decode cX6_addStreet 41 = .ok (.iload 5, 2) := by decide +kernel
theorem dX6_addStreet_43 : decode cX6_addStreet 43 = .ok (.bipush (-2), 2) := by decide +kernel
theorem dX6_addStreet_45 : decode cX6_addStreet 45 = .ok (.if_icmp .ne 13, 3) := by decide +kernel
theorem dX6_addStreet_48 : decode cX6_addStreet 48 = .ok (.new 78, 3) := by decide +kernel
theorem dX6_addStreet_51 : decode cX6_addStreet 51 = .ok (.dup, 1) := by decide +kernel
theorem dX6_addStreet_52 : decode cX6_addStreet 52 = .ok (.ldc 80, 2) := by decide +kernel
theorem dX6_addStreet_54 : decode cX6_addStreet 54 = .ok (.invokespecial 82, 3) := by decide +kernel
theorem dX6_addStreet_57 : decode cX6_addStreet 57 = .ok (.athrow, 1) := by decide +kernel
theorem dX6_addStreet_58 : decode cX6_addStreet 58 = .ok (.iload 5, 2) := by decide +kernel
theorem dX6_addStreet_60 : decode cX6_addStreet 60 = .ok (.bipush (-4), 2) := by decide +kernel
theorem dX6_addStreet_62 : decode cX6_addStreet 62 = .ok (.if_icmp .ne 13, 3) := by decide +kernel
theorem dX6_addStreet_65 : decode cX6_addStreet 65 = .ok (.new 83, 3) := by decide +kernel
theorem dX6_addStreet_68 : decode cX6_addStreet 68 = .ok (.dup, 1) := by decide +kernel
theorem dX6_addStreet_69 : decode cX6_addStreet 69 = .ok (.ldc 85, 2) := by decide +kernel
theorem dX6_addStreet_71 : decode cX6_addStreet 71 = .ok (.invokespecial 87, 3) := by decide +kernel
theorem dX6_addStreet_74 : decode cX6_addStreet 74 = .ok (.athrow, 1) := by decide +kernel
theorem dX6_addStreet_75 : decode cX6_addStreet 75 = .ok (.aload_n 0, 1) := by decide +kernel
theorem dX6_addStreet_76 : decode cX6_addStreet 76 = .ok (.getfield 34, 3) := by decide +kernel
theorem dX6_addStreet_79 : decode cX6_addStreet 79 = .ok (.invokevirtual 88, 3) := by decide +kernel
theorem dX6_addStreet_82 : decode cX6_addStreet 82 = .ok (.iload 5, 2) := by decide +kernel
theorem dX6_addStreet_84 : decode cX6_addStreet 84 = .ok (.ireturn, 1) := by decide +kernel
set_option maxRecDepth 20000 in
theorem ggX6_addPlough_X0_write : GoodIn wsX6_addPlough wsX0_write := goodIn_r _ [11, 12, 13, 14, 10, 15, 16, 17, 18, 19, 20, 21, 22, 23, 24, 25, 26, 27, 28, 29, 30, 31, 32, 33, 34, 35, 36, 37, 38, 39, 40, 41, 42, 43, 44, 45, 46, 47, 48, 49, 50, 51, 52, 53, 54, 55, 56, 57, 58, 59, 60, 61, 62, 93, 94, 95, 96, 97, 98, 99, 100, 101, 102, 103, 104, 105, 106, 107, 108, 109, 110, 111, 112, 113, 114, 115, 116, 117, 118, 119, 120, 121] (by decide +kernel) (by decide +kernel)
set_option maxRecDepth 20000 in
theorem gX6_addPlough_X0_write : GoodIn wsX6_addPlough (wsV RX6 63 RX0 yX0_write wsX0_write) := goodIn_app (goodIn_of _ (by decide +kernel)) ggX6_addPlough_X0_write
set_option maxRecDepth 20000 in
theorem ggX6_addPlough_X5_putPlough : GoodIn wsX6_addPlough wsX5_putPlough := goodIn_ca (goodIn_r _ [66, 24, 67, 68, 69, 70, 71, 72, 54, 73, 62, 56, 58, 59, 60, 96, 97, 98, 99, 100, 101, 102, 103, 104, 105, 106, 116, 117, 118, 119, 120, 121] (by decide +kernel) (by decide +kernel)) (goodIn_sub (fun _ h => List.mem_cons_of_mem _ (List.mem_append_right _ h)) (by decide +kernel))
set_option maxRecDepth 20000 in
theorem gX6_addPlough_X5_putPlough : GoodIn wsX6_addPlough (wsV RX6 91 RX5 yX5_putPlough wsX5_putPlough) := goodIn_app (goodIn_of _ (by decide +kernel)) ggX6_addPlough_X5_putPlough
set_option maxRecDepth 20000 in
theorem ggX6_addPlough_X0_push : GoodIn wsX6_addPlough wsX0_push := goodIn_r _ [77, 16, 78, 79, 80, 81, 82, 93, 94, 95] (by decide +kernel) (by decide +kernel)
set_option maxRecDepth 20000 in
theorem gX6_addPlough_X0_push : GoodIn wsX6_addPlough (wsV RX6 88 RX0 yX0_push wsX0_push) := goodIn_app (goodIn_of _ (by decide +kernel)) ggX6_addPlough_X0_push
theorem dX6_addPlough_0 : decode cX6_addPlough 0 = .ok (.aload_n 0, 1) := by decide +kernel
theorem dX6_addPlough_1 : decode cX6_addPlough 1 = .ok (.getfield 34, 3) := by decide +kernel
theorem dX6_addPlough_4 : decode cX6_addPlough 4 = .ok (.aload_n 0, 1) := by decide +kernel
theorem dX6_addPlough_5 : decode cX6_addPlough 5 = .ok (.getfield 21, 3) := by decide +kernel
theorem dX6_addPlough_8 : decode cX6_addPlough 8 = .ok (.invokevirtual 63, 3) := by decide +kernel
theorem dX6_addPlough_11 : decode cX6_addPlough 11 = .ok (.aload_n 0, 1) := by decide +kernel
theorem dX6_addPlough_12 : decode cX6_addPlough 12 = .ok (.getfield 21, 3) := by decide +kernel
theorem dX6_addPlough_15 : decode cX6_addPlough 15 = .ok (.iload_n 1, 1) := by decide +kernel
theorem dX6_addPlough_16 : decode cX6_addPlough 16 = .ok (.invokevirtual 91, 3) := by decide +kernel
theorem dX6_addPlough_19 : decode cX6_addPlough 19 = .ok (.istore_n 2, 1) := by decide +kernel
theorem dX6_addPlough_20 : decode cX6_addPlough 20 = .ok (.iload_n 2, 1) := by decide +kernel
theorem dX6_addPlough_21 : decode cX6_addPlough 21 = .ok (.iconst (-1), 1) := by decide +kernel
theorem dX6_addPlough_22 : decode cX6_addPlough 22 = .ok (.if_icmp .ne 13, 3) := by decide +kernel
theorem dX6_addPlough_25 : decode cX6_addPlough 25 = .ok (.new 71, 3) := by decide +kernel
theorem dX6_addPlough_28 : decode cX6_addPlough 28 = .ok (.dup, 1) := by decide +kernel
theorem dX6_addPlough_29 : decode cX6_addPlough 29 = .ok (.ldc 73, 2) := by decide +kernel
theorem dX6_addPlough_31 : decode cX6_addPlough 31 = .ok (.invokespecial 75, 3) := by decide +kernel
theorem dX6_addPlough_34 : decode cX6_addPlough 34 = .ok (.athrow, 1) := by decide +kernel
theorem dX6_addPlough_35 : decode cX6_addPlough 35 = .ok (.iload_n 2, 1) := by decide +kernel
theorem dX6_addPlough_36 : decode cX6_addPlough 36 = .ok (.bipush (-4), 2) := by decide +kernel
theorem dX6_addPlough_38 : decode cX6_addPlough 38 = .ok (.if_icmp .ne 13, 3) := by decide +kernel
theorem dX6_addPlough_41 : decode cX6_addPlough 41 = .ok (.new 83, 3) := by decide +kernel
theorem dX6_addPlough_44 : decode cX6_addPlough 44 = .ok (.dup, 1) := by decide +kernel
theorem dX6_addPlough_45 : decode cX6_addPlough 45 = .ok (.ldc 95, 2) := by decide +kernel
theorem dX6_addPlough_47 : decode cX6_addPlough 47 = .ok (.invokespecial 87, 3) := by decide +kernel
theorem dX6_addPlough_50 : decode cX6_addPlough 50 = .ok (.athrow, 1) := by decide +kernel
theorem dX6_addPlough_51 : decode cX6_addPlough 51 = .ok (.aload_n 0, 1) := by decide +kernel
theorem dX6_addPlough_52 : decode cX6_addPlough 52 = .ok (.getfield 34, 3) := by decide +kernel
theorem dX6_addPlough_55 : decode cX6_addPlough 55 = .ok (.invokevirtual 88, 3) := by decide +kernel
theorem dX6_addPlough_58 : decode cX6_addPlough 58 = .ok (.iload_n 2, 1) := by decide +kernel
theorem dX6_addPlough_59 : decode cX6_addPlough 59 = .ok (.ireturn, 1) := by decide +kernel
set_option maxRecDepth 20000 in
theorem ggX6_order_X0_write : GoodIn wsX6_order wsX0_write := goodIn_r _ [11, 12, 13, 14, 10, 15, 16, 17, 18, 19, 20, 21, 22, 23, 24, 25, 26, 27, 28, 29, 30, 31, 32, 33, 34, 35, 36, 37, 38, 39, 40, 41, 42, 43, 44, 45, 46, 47, 48, 49, 50, 51, 52, 53, 54, 55, 56, 57, 58, 59, 60, 61, 62, 98, 99, 100, 101, 102, 103, 104, 105, 106, 107, 108, 109, 110, 111, 112, 113, 114, 115, 116, 117, 118, 119, 120, 121, 122, 123, 124, 125, 126] (by decide +kernel) (by decide +kernel)
set_option maxRecDepth 20000 in
theorem gX6_order_X0_write : GoodIn wsX6_order (wsV RX6 63 RX0 yX0_write wsX0_write) := goodIn_app (goodIn_of _ (by decide +kernel)) ggX6_order_X0_write
set_option maxRecDepth 20000 in
theorem ggX6_order_X5_appendOrder : GoodIn wsX6_order wsX5_appendOrder := goodIn_ca (goodIn_r _ [66, 23, 24, 67, 68, 69, 36, 70, 50, 71, 72, 73, 54, 74, 60, 61, 75, 76, 77, 78, 62, 101, 102, 103, 104, 105, 106, 107, 108, 109, 110, 111, 112, 113, 114, 115, 116, 117, 118, 119, 120, 121, 122, 123, 124, 125, 126] (by decide +kernel) (by decide +kernel)) (goodIn_sub (fun _ h => List.mem_cons_of_mem _ (List.mem_append_right _ h)) (by decide +kernel))
set_option maxRecDepth 20000 in
theorem gX6_order_X5_appendOrder : GoodIn wsX6_order (wsV RX6 97 RX5 yX5_appendOrder wsX5_appendOrder) := goodIn_app (goodIn_of _ (by decide +kernel)) ggX6_order_X5_appendOrder
set_option maxRecDepth 20000 in
theorem ggX6_order_X0_push : GoodIn wsX6_order wsX0_push := goodIn_r _ [82, 16, 83, 84, 85, 86, 87, 98, 99, 100] (by decide +kernel) (by decide +kernel)
set_option maxRecDepth 20000 in
theorem gX6_order_X0_push : GoodIn wsX6_order (wsV RX6 88 RX0 yX0_push wsX0_push) := goodIn_app (goodIn_of _ (by decide +kernel)) ggX6_order_X0_push
theorem dX6_order_0 : decode cX6_order 0 = .ok (.aload_n 0, 1) := by decide +kernel
theorem dX6_order_1 : decode cX6_order 1 = .ok (.getfield 34, 3) := by decide +kernel
theorem dX6_order_4 : decode cX6_order 4 = .ok (.aload_n 0, 1) := by decide +kernel
theorem dX6_order_5 : decode cX6_order 5 = .ok (.getfield 21, 3) := by decide +kernel
theorem dX6_order_8 : decode cX6_order 8 = .ok (.invokevirtual 63, 3) := by decide +kernel
theorem dX6_order_11 : decode cX6_order 11 = .ok (.aload_n 0, 1) := by decide +kernel
theorem dX6_order_12 : decode cX6_order 12 = .ok (.getfield 21, 3) := by decide +kernel
theorem dX6_order_15 : decode cX6_order 15 = .ok (.iload_n 1, 1) := by decide +kernel
theorem dX6_order_16 : decode cX6_order 16 = .ok (.iload_n 2, 1) := by decide +kernel
theorem dX6_order_17 : decode cX6_order 17 = .ok (.invokevirtual 97, 3) := by decide +kernel
theorem dX6_order_20 : decode cX6_order 20 = .ok (.istore_n 3, 1) := by decide +kernel
theorem dX6_order_21 : decode cX6_order 21 = .ok (.iload_n 3, 1) := by decide +kernel
theorem dX6_order_22 : decode cX6_order 22 = .ok (.iconst (-1), 1) := by decide +kernel
theorem dX6_order_23 : decode cX6_order 23 = .ok (.if_icmp .ne 13, 3) := by decide +kernel
theorem dX6_order_26 : decode cX6_order 26 = .ok (.new 71, 3) := by decide +kernel
theorem dX6_order_29 : decode cX6_order 29 = .ok (.dup, 1) := by decide +kernel
theorem dX6_order_30 : decode cX6_order 30 = .ok (.ldc 101, 2) := by decide +kernel
theorem dX6_order_32 : decode cX6_order 32 = .ok (.invokespecial 75, 3) := by decide +kernel
theorem dX6_order_35 : decode cX6_order 35 = .ok (.athrow, 1) := by decide +kernel
theorem dX6_order_36 : decode cX6_order 36 = .ok (.iload_n 3, 1) := by decide +kernel
theorem dX6_order_37 : decode cX6_order 37 = .ok (.bipush (-4), 2) := by decide +kernel
theorem dX6_order_39 : decode cX6_order 39 = .ok (.if_icmp .ne 13, 3) := by decide +kernel
theorem dX6_order_42 : decode cX6_order 42 = .ok (.new 83, 3) := by decide +kernel
theorem dX6_order_45 : decode cX6_order 45 = .ok (.dup, 1) := by decide +kernel
theorem dX6_order_46 : decode cX6_order 46 = .ok (.ldc 103, 2) := by decide +kernel
theorem dX6_order_48 : decode cX6_order 48 = .ok (.invokespecial 87, 3) := by decide +kernel
theorem dX6_order_51 : decode cX6_order 51 = .ok (.athrow, 1) := by decide +kernel
theorem dX6_order_52 : decode cX6_order 52 = .ok (.aload_n 0, 1) := by decide +kernel
theorem dX6_order_53 : decode cX6_order 53 = .ok (.getfield 34, 3) := by decide +kernel
theorem dX6_order_56 : decode cX6_order 56 = .ok (.invokevirtual 88, 3) := by decide +kernel
theorem dX6_order_59 : decode cX6_order 59 = .ok (.iload_n 3, 1) := by decide +kernel
theorem dX6_order_60 : decode cX6_order 60 = .ok (.ireturn, 1) := by decide +kernel
set_option maxRecDepth 20000 in
theorem ggX6_cancelOrder_X0_write : GoodIn wsX6_cancelOrder wsX0_write := goodIn_r _ [11, 12, 13, 14, 10, 15, 16, 17, 18, 19, 20, 21, 22, 23, 24, 25, 26, 27, 28, 29, 30, 31, 32, 33, 34, 35, 36, 37, 38, 39, 40, 41, 42, 43, 44, 45, 46, 47, 48, 49, 50, 51, 52, 53, 54, 55, 56, 57, 58, 59, 60, 61, 62, 98, 99, 100, 101, 102, 103, 104, 105, 106, 107, 108, 109, 110, 111, 112, 113, 114, 115, 116, 117, 118, 119, 120, 121, 122, 123, 124, 125, 126] (by decide +kernel) (by decide +kernel)
set_option maxRecDepth 20000 in
theorem gX6_cancelOrder_X0_write : GoodIn wsX6_cancelOrder (wsV RX6 63 RX0 yX0_write wsX0_write) := goodIn_app (goodIn_of _ (by decide +kernel)) ggX6_cancelOrder_X0_write
set_option maxRecDepth 20000 in
theorem ggX6_cancelOrder_X5_removeOrder : GoodIn wsX6_cancelOrder wsX5_removeOrder := goodIn_ca (goodIn_r _ [66, 24, 67, 68, 69, 54, 70, 60, 71, 72, 73, 74, 62, 75, 76, 77, 78, 61, 101, 102, 103, 104, 105, 106, 107, 108, 109, 110, 111, 121, 122, 123, 124, 125, 126] (by decide +kernel) (by decide +kernel)) (goodIn_sub (fun _ h => List.mem_cons_of_mem _ (List.mem_append_right _ h)) (by decide +kernel))
set_option maxRecDepth 20000 in
theorem gX6_cancelOrder_X5_removeOrder : GoodIn wsX6_cancelOrder (wsV RX6 105 RX5 yX5_removeOrder wsX5_removeOrder) := goodIn_app (goodIn_of _ (by decide +kernel)) ggX6_cancelOrder_X5_removeOrder
set_option maxRecDepth 20000 in
theorem ggX6_cancelOrder_X0_push : GoodIn wsX6_cancelOrder wsX0_push := goodIn_r _ [82, 16, 83, 84, 85, 86, 87, 98, 99, 100] (by decide +kernel) (by decide +kernel)
set_option maxRecDepth 20000 in
theorem gX6_cancelOrder_X0_push : GoodIn wsX6_cancelOrder (wsV RX6 88 RX0 yX0_push wsX0_push) := goodIn_app (goodIn_of _ (by decide +kernel)) ggX6_cancelOrder_X0_push
theorem dX6_cancelOrder_0 : decode cX6_cancelOrder 0 = .ok (.aload_n 0, 1) := by decide +kernel
theorem dX6_cancelOrder_1 : decode cX6_cancelOrder 1 = .ok (.getfield 34, 3) := by decide +kernel
theorem dX6_cancelOrder_4 : decode cX6_cancelOrder 4 = .ok (.aload_n 0, 1) := by decide +kernel
theorem dX6_cancelOrder_5 : decode cX6_cancelOrder 5 = .ok (.getfield 21, 3) := by decide +kernel
theorem dX6_cancelOrder_8 : decode cX6_cancelOrder 8 = .ok (.invokevirtual 63, 3) := by decide +kernel
theorem dX6_cancelOrder_11 : decode cX6_cancelOrder 11 = .ok (.aload_n 0, 1) := by decide +kernel
theorem dX6_cancelOrder_12 : decode cX6_cancelOrder 12 = .ok (.getfield 21, 3) := by decide +kernel
theorem dX6_cancelOrder_15 : decode cX6_cancelOrder 15 = .ok (.iload_n 1, 1) := by decide +kernel
theorem dX6_cancelOrder_16 : decode cX6_cancelOrder 16 = .ok (.invokevirtual 105, 3) := by decide +kernel
theorem dX6_cancelOrder_19 : decode cX6_cancelOrder 19 = .ok (.istore_n 2, 1) := by decide +kernel
theorem dX6_cancelOrder_20 : decode cX6_cancelOrder 20 = .ok (.iload_n 2, 1) := by decide +kernel
theorem dX6_cancelOrder_21 : decode cX6_cancelOrder 21 = .ok (.iconst (-1), 1) := by decide +kernel
theorem dX6_cancelOrder_22 : decode cX6_cancelOrder 22 = .ok (.if_icmp .ne 13, 3) := by decide +kernel
theorem dX6_cancelOrder_25 : decode cX6_cancelOrder 25 = .ok (.new 71, 3) := by decide +kernel
theorem dX6_cancelOrder_28 : decode cX6_cancelOrder 28 = .ok (.dup, 1) := by decide +kernel
theorem dX6_cancelOrder_29 : decode cX6_cancelOrder 29 = .ok (.ldc 108, 2) := by decide +kernel
theorem dX6_cancelOrder_31 : decode cX6_cancelOrder 31 = .ok (.invokespecial 75, 3) := by decide +kernel
theorem dX6_cancelOrder_34 : decode cX6_cancelOrder 34 = .ok (.athrow, 1) := by decide +kernel
theorem dX6_cancelOrder_35 : decode cX6_cancelOrder 35 = .ok (.iload_n 2, 1) := by decide +kernel
theorem dX6_cancelOrder_36 : decode cX6_cancelOrder 36 = .ok (.bipush (-5), 2) := by decide +kernel
theorem dX6_cancelOrder_38 : decode cX6_cancelOrder 38 = .ok (.if_icmp .ne 13, 3) := by decide +kernel
theorem dX6_cancelOrder_41 : decode cX6_cancelOrder 41 = .ok (.new 110, 3) := by decide +kernel
theorem dX6_cancelOrder_44 : decode cX6_cancelOrder 44 = .ok (.dup, 1) := by decide +kernel
theorem dX6_cancelOrder_45 : decode cX6_cancelOrder 45 = .ok (.ldc 112, 2) := by decide +kernel
theorem dX6_cancelOrder_47 : decode cX6_cancelOrder 47 = .ok (.invokespecial 114, 3) := by decide +kernel
theorem dX6_cancelOrder_50 : decode cX6_cancelOrder 50 = .ok (.athrow, 1) := by decide +kernel
theorem dX6_cancelOrder_51 : decode cX6_cancelOrder 51 = .ok (.aload_n 0, 1) := by decide +kernel
theorem dX6_cancelOrder_52 : decode cX6_cancelOrder 52 = .ok (.getfield 34, 3) := by decide +kernel
theorem dX6_cancelOrder_55 : decode cX6_cancelOrder 55 = .ok (.invokevirtual 88, 3) := by decide +kernel
theorem dX6_cancelOrder_58 : decode cX6_cancelOrder 58 = .ok (.iload_n 2, 1) := by decide +kernel
theorem dX6_cancelOrder_59 : decode cX6_cancelOrder 59 = .ok (.ireturn, 1) := by decide +kernel
set_option maxRecDepth 20000 in
theorem ggX6_salt_X0_write : GoodIn wsX6_salt wsX0_write := goodIn_r _ [13, 14, 15, 16, 12, 17, 18, 19, 20, 21, 22, 23, 24, 25, 26, 27, 28, 29, 30, 31, 32, 33, 34, 35, 36, 37, 38, 39, 40, 41, 42, 43, 44, 45, 46, 47, 48, 49, 50, 51, 52, 53, 54, 55, 56, 57, 58, 59, 60, 61, 62, 63, 64, 99, 100, 101, 102, 103, 104, 105, 106, 107, 108, 109, 110, 111, 112, 113, 114, 115, 116, 117, 118, 119, 120, 121, 122, 123, 124, 125, 126, 127] (by decide +kernel) (by decide +kernel)
set_option maxRecDepth 20000 in
theorem gX6_salt_X0_write : GoodIn wsX6_salt (wsV RX6 63 RX0 yX0_write wsX0_write) := goodIn_app (goodIn_of _ (by decide +kernel)) ggX6_salt_X0_write
set_option maxRecDepth 20000 in
theorem ggX6_salt_X5_spreadSalt : GoodIn wsX6_salt wsX5_spreadSalt := goodIn_ca (goodIn_r _ [68, 25, 27, 28, 69, 70, 71, 72, 73, 38, 74, 52, 75, 76, 77, 78, 49, 79, 102, 103, 104, 105, 106, 107, 108, 109, 110, 111, 112, 113, 114, 115, 116, 117, 118, 119, 120, 121] (by decide +kernel) (by decide +kernel)) (goodIn_sub (fun _ h => List.mem_cons_of_mem _ (List.mem_append_right _ h)) (by decide +kernel))
set_option maxRecDepth 20000 in
theorem gX6_salt_X5_spreadSalt : GoodIn wsX6_salt (wsV RX6 115 RX5 yX5_spreadSalt wsX5_spreadSalt) := goodIn_app (goodIn_of _ (by decide +kernel)) ggX6_salt_X5_spreadSalt
set_option maxRecDepth 20000 in
theorem ggX6_salt_X0_push : GoodIn wsX6_salt wsX0_push := goodIn_r _ [83, 18, 84, 85, 86, 87, 88, 99, 100, 101] (by decide +kernel) (by decide +kernel)
set_option maxRecDepth 20000 in
theorem gX6_salt_X0_push : GoodIn wsX6_salt (wsV RX6 88 RX0 yX0_push wsX0_push) := goodIn_app (goodIn_of _ (by decide +kernel)) ggX6_salt_X0_push
theorem dX6_salt_0 : decode cX6_salt 0 = .ok (.aload_n 0, 1) := by decide +kernel
theorem dX6_salt_1 : decode cX6_salt 1 = .ok (.getfield 34, 3) := by decide +kernel
theorem dX6_salt_4 : decode cX6_salt 4 = .ok (.aload_n 0, 1) := by decide +kernel
theorem dX6_salt_5 : decode cX6_salt 5 = .ok (.getfield 21, 3) := by decide +kernel
theorem dX6_salt_8 : decode cX6_salt 8 = .ok (.invokevirtual 63, 3) := by decide +kernel
theorem dX6_salt_11 : decode cX6_salt 11 = .ok (.aload_n 0, 1) := by decide +kernel
theorem dX6_salt_12 : decode cX6_salt 12 = .ok (.getfield 21, 3) := by decide +kernel
theorem dX6_salt_15 : decode cX6_salt 15 = .ok (.iload_n 1, 1) := by decide +kernel
theorem dX6_salt_16 : decode cX6_salt 16 = .ok (.invokevirtual 115, 3) := by decide +kernel
theorem dX6_salt_19 : decode cX6_salt 19 = .ok (.istore_n 2, 1) := by decide +kernel
theorem dX6_salt_20 : decode cX6_salt 20 = .ok (.iload_n 2, 1) := by decide +kernel
theorem dX6_salt_21 : decode cX6_salt 21 = .ok (.iconst (-1), 1) := by decide +kernel
theorem dX6_salt_22 : decode cX6_salt 22 = .ok (.if_icmp .ne 13, 3) := by decide +kernel
theorem dX6_salt_25 : decode cX6_salt 25 = .ok (.new 71, 3) := by decide +kernel
theorem dX6_salt_28 : decode cX6_salt 28 = .ok (.dup, 1) := by decide +kernel
theorem dX6_salt_29 : decode cX6_salt 29 = .ok (.ldc 118, 2) := by decide +kernel
theorem dX6_salt_31 : decode cX6_salt 31 = .ok (.invokespecial 75, 3) := by decide +kernel
theorem dX6_salt_34 : decode cX6_salt 34 = .ok (.athrow, 1) := by decide +kernel
theorem dX6_salt_35 : decode cX6_salt 35 = .ok (.iload_n 2, 1) := by decide +kernel
theorem dX6_salt_36 : decode cX6_salt 36 = .ok (.bipush (-3), 2) := by decide +kernel
theorem dX6_salt_38 : decode cX6_salt 38 = .ok (.if_icmp .ne 13, 3) := by decide +kernel
theorem dX6_salt_41 : decode cX6_salt 41 = .ok (.new 120, 3) := by decide +kernel
theorem dX6_salt_44 : decode cX6_salt 44 = .ok (.dup, 1) := by decide +kernel
theorem dX6_salt_45 : decode cX6_salt 45 = .ok (.ldc 122, 2) := by decide +kernel
theorem dX6_salt_47 : decode cX6_salt 47 = .ok (.invokespecial 124, 3) := by decide +kernel
theorem dX6_salt_50 : decode cX6_salt 50 = .ok (.athrow, 1) := by decide +kernel
theorem dX6_salt_51 : decode cX6_salt 51 = .ok (.iload_n 2, 1) := by decide +kernel
theorem dX6_salt_52 : decode cX6_salt 52 = .ok (.bipush (-4), 2) := by decide +kernel
theorem dX6_salt_54 : decode cX6_salt 54 = .ok (.if_icmp .ne 13, 3) := by decide +kernel
theorem dX6_salt_57 : decode cX6_salt 57 = .ok (.new 83, 3) := by decide +kernel
theorem dX6_salt_60 : decode cX6_salt 60 = .ok (.dup, 1) := by decide +kernel
theorem dX6_salt_61 : decode cX6_salt 61 = .ok (.ldc 125, 2) := by decide +kernel
theorem dX6_salt_63 : decode cX6_salt 63 = .ok (.invokespecial 87, 3) := by decide +kernel
theorem dX6_salt_66 : decode cX6_salt 66 = .ok (.athrow, 1) := by decide +kernel
theorem dX6_salt_67 : decode cX6_salt 67 = .ok (.aload_n 0, 1) := by decide +kernel
theorem dX6_salt_68 : decode cX6_salt 68 = .ok (.getfield 34, 3) := by decide +kernel
theorem dX6_salt_71 : decode cX6_salt 71 = .ok (.invokevirtual 88, 3) := by decide +kernel
theorem dX6_salt_74 : decode cX6_salt 74 = .ok (.iload_n 2, 1) := by decide +kernel
theorem dX6_salt_75 : decode cX6_salt 75 = .ok (.ireturn, 1) := by decide +kernel
set_option maxRecDepth 20000 in
theorem ggX6_loadSalt_X0_write : GoodIn wsX6_loadSalt wsX0_write := goodIn_r _ [11, 12, 13, 14, 10, 15, 16, 17, 18, 19, 20, 21, 22, 23, 24, 25, 26, 27, 28, 29, 30, 31, 32, 33, 34, 35, 36, 37, 38, 39, 40, 41, 42, 43, 44, 45, 46, 47, 48, 49, 50, 51, 52, 53, 54, 55, 56, 57, 58, 59, 60, 61, 62, 86, 87, 88, 89, 90, 91, 92, 93, 94, 95, 96, 97, 98, 99, 100, 101, 102, 103, 104, 105, 106, 107, 108, 109, 110, 111, 112, 113, 114] (by decide +kernel) (by decide +kernel)
set_option maxRecDepth 20000 in
theorem gX6_loadSalt_X0_write : GoodIn wsX6_loadSalt (wsV RX6 63 RX0 yX0_write wsX0_write) := goodIn_app (goodIn_of _ (by decide +kernel)) ggX6_loadSalt_X0_write
set_option maxRecDepth 20000 in
theorem ggX6_loadSalt_X5_fillStore : GoodIn wsX6_loadSalt wsX5_fillStore := goodIn_r _ [66, 26, 89, 90, 91, 92, 93, 94, 95, 96, 97, 98, 99] (by decide +kernel) (by decide +kernel)
set_option maxRecDepth 20000 in
theorem gX6_loadSalt_X5_fillStore : GoodIn wsX6_loadSalt (wsV RX6 127 RX5 yX5_fillStore wsX5_fillStore) := goodIn_app (goodIn_of _ (by decide +kernel)) ggX6_loadSalt_X5_fillStore
set_option maxRecDepth 20000 in
theorem ggX6_loadSalt_X0_push : GoodIn wsX6_loadSalt wsX0_push := goodIn_r _ [70, 16, 71, 72, 73, 74, 75, 86, 87, 88] (by decide +kernel) (by decide +kernel)
set_option maxRecDepth 20000 in
theorem gX6_loadSalt_X0_push : GoodIn wsX6_loadSalt (wsV RX6 88 RX0 yX0_push wsX0_push) := goodIn_app (goodIn_of _ (by decide +kernel)) ggX6_loadSalt_X0_push
theorem dX6_loadSalt_0 : decode cX6_loadSalt 0 = .ok (.aload_n 0, 1) := by decide +kernel
theorem dX6_loadSalt_1 : decode cX6_loadSalt 1 = .ok (.getfield 34, 3) := by decide +kernel
theorem dX6_loadSalt_4 : decode cX6_loadSalt 4 = .ok (.aload_n 0, 1) := by decide +kernel
theorem dX6_loadSalt_5 : decode cX6_loadSalt 5 = .ok (.getfield 21, 3) := by decide +kernel
theorem dX6_loadSalt_8 : decode cX6_loadSalt 8 = .ok (.invokevirtual 63, 3) := by decide +kernel
theorem dX6_loadSalt_11 : decode cX6_loadSalt 11 = .ok (.aload_n 0, 1) := by decide +kernel
theorem dX6_loadSalt_12 : decode cX6_loadSalt 12 = .ok (.getfield 21, 3) := by decide +kernel
theorem dX6_loadSalt_15 : decode cX6_loadSalt 15 = .ok (.iload_n 1, 1) := by decide +kernel
theorem dX6_loadSalt_16 : decode cX6_loadSalt 16 = .ok (.invokevirtual 127, 3) := by decide +kernel
theorem dX6_loadSalt_19 : decode cX6_loadSalt 19 = .ok (.istore_n 2, 1) := by decide +kernel
theorem dX6_loadSalt_20 : decode cX6_loadSalt 20 = .ok (.iload_n 2, 1) := by decide +kernel
theorem dX6_loadSalt_21 : decode cX6_loadSalt 21 = .ok (.bipush (-2), 2) := by decide +kernel
theorem dX6_loadSalt_23 : decode cX6_loadSalt 23 = .ok (.if_icmp .ne 13, 3) := by decide +kernel
theorem dX6_loadSalt_26 : decode cX6_loadSalt 26 = .ok (.new 78, 3) := by decide +kernel
theorem dX6_loadSalt_29 : decode cX6_loadSalt 29 = .ok (.dup, 1) := by decide +kernel
theorem dX6_loadSalt_30 : decode cX6_loadSalt 30 = .ok (.ldc 130, 2) := by decide +kernel
theorem dX6_loadSalt_32 : decode cX6_loadSalt 32 = .ok (.invokespecial 82, 3) := by decide +kernel
theorem dX6_loadSalt_35 : decode cX6_loadSalt 35 = .ok (.athrow, 1) := by decide +kernel
theorem dX6_loadSalt_36 : decode cX6_loadSalt 36 = .ok (.iload_n 2, 1) := by decide +kernel
theorem dX6_loadSalt_37 : decode cX6_loadSalt 37 = .ok (.bipush (-3), 2) := by decide +kernel
theorem dX6_loadSalt_39 : decode cX6_loadSalt 39 = .ok (.if_icmp .ne 13, 3) := by decide +kernel
theorem dX6_loadSalt_42 : decode cX6_loadSalt 42 = .ok (.new 120, 3) := by decide +kernel
theorem dX6_loadSalt_45 : decode cX6_loadSalt 45 = .ok (.dup, 1) := by decide +kernel
theorem dX6_loadSalt_46 : decode cX6_loadSalt 46 = .ok (.ldc 132, 2) := by decide +kernel
theorem dX6_loadSalt_48 : decode cX6_loadSalt 48 = .ok (.invokespecial 124, 3) := by decide +kernel
theorem dX6_loadSalt_51 : decode cX6_loadSalt 51 = .ok (.athrow, 1) := by decide +kernel
theorem dX6_loadSalt_52 : decode cX6_loadSalt 52 = .ok (.aload_n 0, 1) := by decide +kernel
theorem dX6_loadSalt_53 : decode cX6_loadSalt 53 = .ok (.getfield 34, 3) := by decide +kernel
theorem dX6_loadSalt_56 : decode cX6_loadSalt 56 = .ok (.invokevirtual 88, 3) := by decide +kernel
theorem dX6_loadSalt_59 : decode cX6_loadSalt 59 = .ok (.iload_n 2, 1) := by decide +kernel
theorem dX6_loadSalt_60 : decode cX6_loadSalt 60 = .ok (.ireturn, 1) := by decide +kernel
set_option maxRecDepth 20000 in
theorem ggX6_setSnowfall_X0_write : GoodIn wsX6_setSnowfall wsX0_write := goodIn_r _ [9, 10, 11, 12, 8, 13, 14, 15, 16, 17, 18, 19, 20, 21, 22, 23, 24, 25, 26, 27, 28, 29, 30, 31, 32, 33, 34, 35, 36, 37, 38, 39, 40, 41, 42, 43, 44, 45, 46, 47, 48, 49, 50, 51, 52, 53, 54, 55, 56, 57, 58, 59, 60, 84, 85, 86, 87, 88, 89, 90, 91, 92, 93, 94, 95, 96, 97, 98, 99, 100, 101, 102, 103, 104, 105, 106, 107, 108, 109, 110, 111, 112] (by decide +kernel) (by decide +kernel)
set_option maxRecDepth 20000 in
theorem gX6_setSnowfall_X0_write : GoodIn wsX6_setSnowfall (wsV RX6 63 RX0 yX0_write wsX0_write) := goodIn_app (goodIn_of _ (by decide +kernel)) ggX6_setSnowfall_X0_write
set_option maxRecDepth 20000 in
theorem ggX6_setSnowfall_X5_changeRate : GoodIn wsX6_setSnowfall wsX5_changeRate := goodIn_r _ [64, 25, 87, 88, 89, 90, 91, 92, 93, 94, 95, 96, 97] (by decide +kernel) (by decide +kernel)
set_option maxRecDepth 20000 in
theorem gX6_setSnowfall_X5_changeRate : GoodIn wsX6_setSnowfall (wsV RX6 134 RX5 yX5_changeRate wsX5_changeRate) := goodIn_app (goodIn_of _ (by decide +kernel)) ggX6_setSnowfall_X5_changeRate
set_option maxRecDepth 20000 in
theorem ggX6_setSnowfall_X0_push : GoodIn wsX6_setSnowfall wsX0_push := goodIn_r _ [68, 14, 69, 70, 71, 72, 73, 84, 85, 86] (by decide +kernel) (by decide +kernel)
set_option maxRecDepth 20000 in
theorem gX6_setSnowfall_X0_push : GoodIn wsX6_setSnowfall (wsV RX6 88 RX0 yX0_push wsX0_push) := goodIn_app (goodIn_of _ (by decide +kernel)) ggX6_setSnowfall_X0_push
theorem dX6_setSnowfall_0 : decode cX6_setSnowfall 0 = .ok (.aload_n 0, 1) := by decide +kernel
theorem dX6_setSnowfall_1 : decode cX6_setSnowfall 1 = .ok (.getfield 34, 3) := by decide +kernel
theorem dX6_setSnowfall_4 : decode cX6_setSnowfall 4 = .ok (.aload_n 0, 1) := by decide +kernel
theorem dX6_setSnowfall_5 : decode cX6_setSnowfall 5 = .ok (.getfield 21, 3) := by decide +kernel
theorem dX6_setSnowfall_8 : decode cX6_setSnowfall 8 = .ok (.invokevirtual 63, 3) := by decide +kernel
theorem dX6_setSnowfall_11 : decode cX6_setSnowfall 11 = .ok (.aload_n 0, 1) := by decide +kernel
theorem dX6_setSnowfall_12 : decode cX6_setSnowfall 12 = .ok (.getfield 21, 3) := by decide +kernel
theorem dX6_setSnowfall_15 : decode cX6_setSnowfall 15 = .ok (.iload_n 1, 1) := by decide +kernel
theorem dX6_setSnowfall_16 : decode cX6_setSnowfall 16 = .ok (.invokevirtual 134, 3) := by decide +kernel
theorem dX6_setSnowfall_19 : decode cX6_setSnowfall 19 = .ok (.istore_n 2, 1) := by decide +kernel
theorem dX6_setSnowfall_20 : decode cX6_setSnowfall 20 = .ok (.iload_n 2, 1) := by decide +kernel
theorem dX6_setSnowfall_21 : decode cX6_setSnowfall 21 = .ok (.bipush (-2), 2) := by decide +kernel
theorem dX6_setSnowfall_23 : decode cX6_setSnowfall 23 = .ok (.if_icmp .ne 13, 3) := by decide +kernel
theorem dX6_setSnowfall_26 : decode cX6_setSnowfall 26 = .ok (.new 78, 3) := by decide +kernel
theorem dX6_setSnowfall_29 : decode cX6_setSnowfall 29 = .ok (.dup, 1) := by decide +kernel
theorem dX6_setSnowfall_30 : decode cX6_setSnowfall 30 = .ok (.ldc 137, 2) := by decide +kernel
theorem dX6_setSnowfall_32 : decode cX6_setSnowfall 32 = .ok (.invokespecial 82, 3) := by decide +kernel
theorem dX6_setSnowfall_35 : decode cX6_setSnowfall 35 = .ok (.athrow, 1) := by decide +kernel
theorem dX6_setSnowfall_36 : decode cX6_setSnowfall 36 = .ok (.aload_n 0, 1) := by decide +kernel
theorem dX6_setSnowfall_37 : decode cX6_setSnowfall 37 = .ok (.getfield 34, 3) := by decide +kernel
theorem dX6_setSnowfall_40 : decode cX6_setSnowfall 40 = .ok (.invokevirtual 88, 3) := by decide +kernel
theorem dX6_setSnowfall_43 : decode cX6_setSnowfall 43 = .ok (.iload_n 2, 1) := by decide +kernel
theorem dX6_setSnowfall_44 : decode cX6_setSnowfall 44 = .ok (.ireturn, 1) := by decide +kernel
set_option maxRecDepth 20000 in
theorem ggX6_setWind_X0_write : GoodIn wsX6_setWind wsX0_write := goodIn_r _ [9, 10, 11, 12, 8, 13, 14, 15, 16, 17, 18, 19, 20, 21, 22, 23, 24, 25, 26, 27, 28, 29, 30, 31, 32, 33, 34, 35, 36, 37, 38, 39, 40, 41, 42, 43, 44, 45, 46, 47, 48, 49, 50, 51, 52, 53, 54, 55, 56, 57, 58, 59, 60, 84, 85, 86, 87, 88, 89, 90, 91, 92, 93, 94, 95, 96, 97, 98, 99, 100, 101, 102, 103, 104, 105, 106, 107, 108, 109, 110, 111, 112] (by decide +kernel) (by decide +kernel)
set_option maxRecDepth 20000 in
theorem gX6_setWind_X0_write : GoodIn wsX6_setWind (wsV RX6 63 RX0 yX0_write wsX0_write) := goodIn_app (goodIn_of _ (by decide +kernel)) ggX6_setWind_X0_write
set_option maxRecDepth 20000 in
theorem ggX6_setWind_X5_changeForce : GoodIn wsX6_setWind wsX5_changeForce := goodIn_r _ [64, 26, 87, 88, 89, 90, 91, 92, 93, 94, 95, 96, 97] (by decide +kernel) (by decide +kernel)
set_option maxRecDepth 20000 in
theorem gX6_setWind_X5_changeForce : GoodIn wsX6_setWind (wsV RX6 139 RX5 yX5_changeForce wsX5_changeForce) := goodIn_app (goodIn_of _ (by decide +kernel)) ggX6_setWind_X5_changeForce
set_option maxRecDepth 20000 in
theorem ggX6_setWind_X0_push : GoodIn wsX6_setWind wsX0_push := goodIn_r _ [68, 14, 69, 70, 71, 72, 73, 84, 85, 86] (by decide +kernel) (by decide +kernel)
set_option maxRecDepth 20000 in
theorem gX6_setWind_X0_push : GoodIn wsX6_setWind (wsV RX6 88 RX0 yX0_push wsX0_push) := goodIn_app (goodIn_of _ (by decide +kernel)) ggX6_setWind_X0_push
theorem dX6_setWind_0 : decode cX6_setWind 0 = .ok (.aload_n 0, 1) := by decide +kernel
theorem dX6_setWind_1 : decode cX6_setWind 1 = .ok (.getfield 34, 3) := by decide +kernel
theorem dX6_setWind_4 : decode cX6_setWind 4 = .ok (.aload_n 0, 1) := by decide +kernel
theorem dX6_setWind_5 : decode cX6_setWind 5 = .ok (.getfield 21, 3) := by decide +kernel
theorem dX6_setWind_8 : decode cX6_setWind 8 = .ok (.invokevirtual 63, 3) := by decide +kernel
theorem dX6_setWind_11 : decode cX6_setWind 11 = .ok (.aload_n 0, 1) := by decide +kernel
theorem dX6_setWind_12 : decode cX6_setWind 12 = .ok (.getfield 21, 3) := by decide +kernel
theorem dX6_setWind_15 : decode cX6_setWind 15 = .ok (.iload_n 1, 1) := by decide +kernel
theorem dX6_setWind_16 : decode cX6_setWind 16 = .ok (.invokevirtual 139, 3) := by decide +kernel
theorem dX6_setWind_19 : decode cX6_setWind 19 = .ok (.istore_n 2, 1) := by decide +kernel
theorem dX6_setWind_20 : decode cX6_setWind 20 = .ok (.iload_n 2, 1) := by decide +kernel
theorem dX6_setWind_21 : decode cX6_setWind 21 = .ok (.bipush (-2), 2) := by decide +kernel
theorem dX6_setWind_23 : decode cX6_setWind 23 = .ok (.if_icmp .ne 13, 3) := by decide +kernel
theorem dX6_setWind_26 : decode cX6_setWind 26 = .ok (.new 78, 3) := by decide +kernel
theorem dX6_setWind_29 : decode cX6_setWind 29 = .ok (.dup, 1) := by decide +kernel
theorem dX6_setWind_30 : decode cX6_setWind 30 = .ok (.ldc 142, 2) := by decide +kernel
theorem dX6_setWind_32 : decode cX6_setWind 32 = .ok (.invokespecial 82, 3) := by decide +kernel
theorem dX6_setWind_35 : decode cX6_setWind 35 = .ok (.athrow, 1) := by decide +kernel
theorem dX6_setWind_36 : decode cX6_setWind 36 = .ok (.aload_n 0, 1) := by decide +kernel
theorem dX6_setWind_37 : decode cX6_setWind 37 = .ok (.getfield 34, 3) := by decide +kernel
theorem dX6_setWind_40 : decode cX6_setWind 40 = .ok (.invokevirtual 88, 3) := by decide +kernel
theorem dX6_setWind_43 : decode cX6_setWind 43 = .ok (.iload_n 2, 1) := by decide +kernel
theorem dX6_setWind_44 : decode cX6_setWind 44 = .ok (.ireturn, 1) := by decide +kernel
set_option maxRecDepth 20000 in
theorem ggX6_advance_X0_write : GoodIn wsX6_advance wsX0_write := goodIn_r _ [9, 10, 11, 12, 8, 13, 14, 15, 16, 17, 18, 19, 20, 21, 22, 23, 24, 25, 26, 27, 28, 29, 30, 31, 32, 33, 34, 35, 36, 37, 38, 39, 40, 41, 42, 43, 44, 45, 46, 47, 48, 49, 50, 51, 52, 53, 54, 55, 56, 57, 58, 59, 60, 190, 191, 192, 193, 194, 195, 196, 197, 198, 199, 200, 201, 202, 203, 204, 205, 206, 207, 208, 209, 210, 211, 212, 213, 214, 215, 216, 217, 218] (by decide +kernel) (by decide +kernel)
set_option maxRecDepth 20000 in
theorem gX6_advance_X0_write : GoodIn wsX6_advance (wsV RX6 63 RX0 yX0_write wsX0_write) := goodIn_app (goodIn_of _ (by decide +kernel)) ggX6_advance_X0_write
set_option maxRecDepth 20000 in
theorem ggX6_advance_X5_passMinutes : GoodIn wsX6_advance wsX5_passMinutes := goodIn_ca (goodIn_r _ [64, 27, 23, 22, 65, 66, 67, 68, 52, 69, 57, 58, 70, 71, 72, 73, 60, 74, 75, 76, 19, 77, 78, 21, 29, 79, 80, 81, 82, 83, 84, 85, 59, 86, 87, 88, 89, 90, 91, 92, 93, 94, 95, 96, 97, 98, 99, 100, 101, 102, 103, 34, 104, 48, 105, 106, 107, 108, 109, 110, 111, 112, 113, 114, 115, 116, 117, 118, 119, 120, 121, 122, 123, 124, 125, 126, 36, 41, 127, 128, 129, 130, 131, 132, 133, 134, 56, 54, 135, 136, 137, 138, 139, 140, 141, 142, 28, 143, 144, 145, 146, 147, 148, 25, 26, 30, 149, 150, 151, 152, 44, 153, 154, 155, 156, 157, 45, 158, 159, 160, 161, 162, 163, 164, 165, 166, 167, 168, 169, 46, 170, 171, 172, 173, 42, 193, 194, 195, 196, 197, 198, 199, 200, 201, 202, 203, 213, 214, 215, 216, 217, 218, 204, 205, 206, 207, 208, 209, 210, 211, 212, 219, 220, 221] (by decide +kernel) (by decide +kernel)) (goodIn_sub (fun _ h => List.mem_cons_of_mem _ (List.mem_append_right _ h)) (by decide +kernel))
set_option maxRecDepth 20000 in
theorem gX6_advance_X5_passMinutes : GoodIn wsX6_advance (wsV RX6 144 RX5 yX5_passMinutes wsX5_passMinutes) := goodIn_app (goodIn_of _ (by decide +kernel)) ggX6_advance_X5_passMinutes
set_option maxRecDepth 20000 in
theorem ggX6_advance_X0_push : GoodIn wsX6_advance wsX0_push := goodIn_r _ [177, 14, 178, 179, 96, 97, 98, 190, 191, 192] (by decide +kernel) (by decide +kernel)
set_option maxRecDepth 20000 in
theorem gX6_advance_X0_push : GoodIn wsX6_advance (wsV RX6 88 RX0 yX0_push wsX0_push) := goodIn_app (goodIn_of _ (by decide +kernel)) ggX6_advance_X0_push
theorem dX6_advance_0 : decode cX6_advance 0 = .ok (.aload_n 0, 1) := by decide +kernel
theorem dX6_advance_1 : decode cX6_advance 1 = .ok (.getfield 34, 3) := by decide +kernel
theorem dX6_advance_4 : decode cX6_advance 4 = .ok (.aload_n 0, 1) := by decide +kernel
theorem dX6_advance_5 : decode cX6_advance 5 = .ok (.getfield 21, 3) := by decide +kernel
theorem dX6_advance_8 : decode cX6_advance 8 = .ok (.invokevirtual 63, 3) := by decide +kernel
theorem dX6_advance_11 : decode cX6_advance 11 = .ok (.aload_n 0, 1) := by decide +kernel
theorem dX6_advance_12 : decode cX6_advance 12 = .ok (.getfield 21, 3) := by decide +kernel
theorem dX6_advance_15 : decode cX6_advance 15 = .ok (.iload_n 1, 1) := by decide +kernel
theorem dX6_advance_16 : decode cX6_advance 16 = .ok (.invokevirtual 144, 3) := by decide +kernel
theorem dX6_advance_19 : decode cX6_advance 19 = .ok (.istore_n 2, 1) := by decide +kernel
theorem dX6_advance_20 : decode cX6_advance 20 = .ok (.iload_n 2, 1) := by decide +kernel
theorem dX6_advance_21 : decode cX6_advance 21 = .ok (.bipush (-2), 2) := by decide +kernel
theorem dX6_advance_23 : decode cX6_advance 23 = .ok (.if_icmp .ne 13, 3) := by decide +kernel
theorem dX6_advance_26 : decode cX6_advance 26 = .ok (.new 78, 3) := by decide +kernel
theorem dX6_advance_29 : decode cX6_advance 29 = .ok (.dup, 1) := by decide +kernel
theorem dX6_advance_30 : decode cX6_advance 30 = .ok (.ldc 147, 2) := by decide +kernel
theorem dX6_advance_32 : decode cX6_advance 32 = .ok (.invokespecial 82, 3) := by decide +kernel
theorem dX6_advance_35 : decode cX6_advance 35 = .ok (.athrow, 1) := by decide +kernel
theorem dX6_advance_36 : decode cX6_advance 36 = .ok (.aload_n 0, 1) := by decide +kernel
theorem dX6_advance_37 : decode cX6_advance 37 = .ok (.getfield 34, 3) := by decide +kernel
theorem dX6_advance_40 : decode cX6_advance 40 = .ok (.invokevirtual 88, 3) := by decide +kernel
theorem dX6_advance_43 : decode cX6_advance 43 = .ok (.iload_n 2, 1) := by decide +kernel
theorem dX6_advance_44 : decode cX6_advance 44 = .ok (.ireturn, 1) := by decide +kernel
theorem dX6_streetCount_0 : decode cX6_streetCount 0 = .ok (.aload_n 0, 1) := by decide +kernel
theorem dX6_streetCount_1 : decode cX6_streetCount 1 = .ok (.getfield 21, 3) := by decide +kernel
theorem dX6_streetCount_4 : decode cX6_streetCount 4 = .ok (.getfield 149, 3) := by decide +kernel
theorem dX6_streetCount_7 : decode cX6_streetCount 7 = .ok (.getfield 153, 3) := by decide +kernel
theorem dX6_streetCount_10 : decode cX6_streetCount 10 = .ok (.ireturn, 1) := by decide +kernel
set_option maxRecDepth 20000 in
theorem ggX6_lowerEnd_X4_has : GoodIn wsX6_lowerEnd wsX4_has := goodIn_r _ [10, 11, 33, 34, 35, 36, 37, 38, 39, 40, 41] (by decide +kernel) (by decide +kernel)
set_option maxRecDepth 20000 in
theorem gX6_lowerEnd_X4_has : GoodIn wsX6_lowerEnd (wsV RX6 158 RX4 yX4_has wsX4_has) := goodIn_app (goodIn_of _ (by decide +kernel)) ggX6_lowerEnd_X4_has
theorem dX6_lowerEnd_0 : decode cX6_lowerEnd 0 = .ok (.aload_n 0, 1) := by decide +kernel
theorem dX6_lowerEnd_1 : decode cX6_lowerEnd 1 = .ok (.getfield 21, 3) := by decide +kernel
theorem dX6_lowerEnd_4 : decode cX6_lowerEnd 4 = .ok (.getfield 149, 3) := by decide +kernel
theorem dX6_lowerEnd_7 : decode cX6_lowerEnd 7 = .ok (.iload_n 1, 1) := by decide +kernel
theorem dX6_lowerEnd_8 : decode cX6_lowerEnd 8 = .ok (.invokevirtual 158, 3) := by decide +kernel
theorem dX6_lowerEnd_11 : decode cX6_lowerEnd 11 = .ok (.ifCond .ne 13, 3) := by decide +kernel
theorem dX6_lowerEnd_14 : decode cX6_lowerEnd 14 = .ok (.new 71, 3) := by decide +kernel
theorem dX6_lowerEnd_17 : decode cX6_lowerEnd 17 = .ok (.dup, 1) := by decide +kernel
theorem dX6_lowerEnd_18 : decode cX6_lowerEnd 18 = .ok (.ldc 118, 2) := by decide +kernel
theorem dX6_lowerEnd_20 : decode cX6_lowerEnd 20 = .ok (.invokespecial 75, 3) := by decide +kernel
theorem dX6_lowerEnd_23 : decode cX6_lowerEnd 23 = .ok (.athrow, 1) := by decide +kernel
theorem dX6_lowerEnd_24 : decode cX6_lowerEnd 24 = .ok (.aload_n 0, 1) := by decide +kernel
theorem dX6_lowerEnd_25 : decode cX6_lowerEnd 25 = .ok (.getfield 21, 3) := by decide +kernel
theorem dX6_lowerEnd_28 : decode cX6_lowerEnd 28 = .ok (.getfield 149, 3) := by decide +kernel
theorem dX6_lowerEnd_31 : decode cX6_lowerEnd 31 = .ok (.getfield 162, 3) := by decide +kernel
theorem dX6_lowerEnd_34 : decode cX6_lowerEnd 34 = .ok (.iload_n 1, 1) := by decide +kernel
theorem dX6_lowerEnd_35 : decode cX6_lowerEnd 35 = .ok (.iaload, 1) := by decide +kernel
theorem dX6_lowerEnd_36 : decode cX6_lowerEnd 36 = .ok (.ireturn, 1) := by decide +kernel
set_option maxRecDepth 20000 in
theorem ggX6_higherEnd_X4_has : GoodIn wsX6_higherEnd wsX4_has := goodIn_r _ [10, 11, 33, 34, 35, 36, 37, 38, 39, 40, 41] (by decide +kernel) (by decide +kernel)
set_option maxRecDepth 20000 in
theorem gX6_higherEnd_X4_has : GoodIn wsX6_higherEnd (wsV RX6 158 RX4 yX4_has wsX4_has) := goodIn_app (goodIn_of _ (by decide +kernel)) ggX6_higherEnd_X4_has
theorem dX6_higherEnd_0 : decode cX6_higherEnd 0 = .ok (.aload_n 0, 1) := by decide +kernel
theorem dX6_higherEnd_1 : decode cX6_higherEnd 1 = .ok (.getfield 21, 3) := by decide +kernel
theorem dX6_higherEnd_4 : decode cX6_higherEnd 4 = .ok (.getfield 149, 3) := by decide +kernel
theorem dX6_higherEnd_7 : decode cX6_higherEnd 7 = .ok (.iload_n 1, 1) := by decide +kernel
theorem dX6_higherEnd_8 : decode cX6_higherEnd 8 = .ok (.invokevirtual 158, 3) := by decide +kernel
theorem dX6_higherEnd_11 : decode cX6_higherEnd 11 = .ok (.ifCond .ne 13, 3) := by decide +kernel
theorem dX6_higherEnd_14 : decode cX6_higherEnd 14 = .ok (.new 71, 3) := by decide +kernel
theorem dX6_higherEnd_17 : decode cX6_higherEnd 17 = .ok (.dup, 1) := by decide +kernel
theorem dX6_higherEnd_18 : decode cX6_higherEnd 18 = .ok (.ldc 118, 2) := by decide +kernel
theorem dX6_higherEnd_20 : decode cX6_higherEnd 20 = .ok (.invokespecial 75, 3) := by decide +kernel
theorem dX6_higherEnd_23 : decode cX6_higherEnd 23 = .ok (.athrow, 1) := by decide +kernel
theorem dX6_higherEnd_24 : decode cX6_higherEnd 24 = .ok (.aload_n 0, 1) := by decide +kernel
theorem dX6_higherEnd_25 : decode cX6_higherEnd 25 = .ok (.getfield 21, 3) := by decide +kernel
theorem dX6_higherEnd_28 : decode cX6_higherEnd 28 = .ok (.getfield 149, 3) := by decide +kernel
theorem dX6_higherEnd_31 : decode cX6_higherEnd 31 = .ok (.getfield 166, 3) := by decide +kernel
theorem dX6_higherEnd_34 : decode cX6_higherEnd 34 = .ok (.iload_n 1, 1) := by decide +kernel
theorem dX6_higherEnd_35 : decode cX6_higherEnd 35 = .ok (.iaload, 1) := by decide +kernel
theorem dX6_higherEnd_36 : decode cX6_higherEnd 36 = .ok (.ireturn, 1) := by decide +kernel
set_option maxRecDepth 20000 in
theorem ggX6_streetClass_X4_has : GoodIn wsX6_streetClass wsX4_has := goodIn_r _ [10, 11, 33, 34, 35, 36, 37, 38, 39, 40, 41] (by decide +kernel) (by decide +kernel)
set_option maxRecDepth 20000 in
theorem gX6_streetClass_X4_has : GoodIn wsX6_streetClass (wsV RX6 158 RX4 yX4_has wsX4_has) := goodIn_app (goodIn_of _ (by decide +kernel)) ggX6_streetClass_X4_has
theorem dX6_streetClass_0 : decode cX6_streetClass 0 = .ok (.aload_n 0, 1) := by decide +kernel
theorem dX6_streetClass_1 : decode cX6_streetClass 1 = .ok (.getfield 21, 3) := by decide +kernel
theorem dX6_streetClass_4 : decode cX6_streetClass 4 = .ok (.getfield 149, 3) := by decide +kernel
theorem dX6_streetClass_7 : decode cX6_streetClass 7 = .ok (.iload_n 1, 1) := by decide +kernel
theorem dX6_streetClass_8 : decode cX6_streetClass 8 = .ok (.invokevirtual 158, 3) := by decide +kernel
theorem dX6_streetClass_11 : decode cX6_streetClass 11 = .ok (.ifCond .ne 13, 3) := by decide +kernel
theorem dX6_streetClass_14 : decode cX6_streetClass 14 = .ok (.new 71, 3) := by decide +kernel
theorem dX6_streetClass_17 : decode cX6_streetClass 17 = .ok (.dup, 1) := by decide +kernel
theorem dX6_streetClass_18 : decode cX6_streetClass 18 = .ok (.ldc 118, 2) := by decide +kernel
theorem dX6_streetClass_20 : decode cX6_streetClass 20 = .ok (.invokespecial 75, 3) := by decide +kernel
theorem dX6_streetClass_23 : decode cX6_streetClass 23 = .ok (.athrow, 1) := by decide +kernel
theorem dX6_streetClass_24 : decode cX6_streetClass 24 = .ok (.aload_n 0, 1) := by decide +kernel
theorem dX6_streetClass_25 : decode cX6_streetClass 25 = .ok (.getfield 21, 3) := by decide +kernel
theorem dX6_streetClass_28 : decode cX6_streetClass 28 = .ok (.getfield 149, 3) := by decide +kernel
theorem dX6_streetClass_31 : decode cX6_streetClass 31 = .ok (.getfield 169, 3) := by decide +kernel
theorem dX6_streetClass_34 : decode cX6_streetClass 34 = .ok (.iload_n 1, 1) := by decide +kernel
theorem dX6_streetClass_35 : decode cX6_streetClass 35 = .ok (.caload, 1) := by decide +kernel
theorem dX6_streetClass_36 : decode cX6_streetClass 36 = .ok (.ireturn, 1) := by decide +kernel
set_option maxRecDepth 20000 in
theorem ggX6_length_X4_has : GoodIn wsX6_length wsX4_has := goodIn_r _ [10, 11, 33, 34, 35, 36, 37, 38, 39, 40, 41] (by decide +kernel) (by decide +kernel)
set_option maxRecDepth 20000 in
theorem gX6_length_X4_has : GoodIn wsX6_length (wsV RX6 158 RX4 yX4_has wsX4_has) := goodIn_app (goodIn_of _ (by decide +kernel)) ggX6_length_X4_has
theorem dX6_length_0 : decode cX6_length 0 = .ok (.aload_n 0, 1) := by decide +kernel
theorem dX6_length_1 : decode cX6_length 1 = .ok (.getfield 21, 3) := by decide +kernel
theorem dX6_length_4 : decode cX6_length 4 = .ok (.getfield 149, 3) := by decide +kernel
theorem dX6_length_7 : decode cX6_length 7 = .ok (.iload_n 1, 1) := by decide +kernel
theorem dX6_length_8 : decode cX6_length 8 = .ok (.invokevirtual 158, 3) := by decide +kernel
theorem dX6_length_11 : decode cX6_length 11 = .ok (.ifCond .ne 13, 3) := by decide +kernel
theorem dX6_length_14 : decode cX6_length 14 = .ok (.new 71, 3) := by decide +kernel
theorem dX6_length_17 : decode cX6_length 17 = .ok (.dup, 1) := by decide +kernel
theorem dX6_length_18 : decode cX6_length 18 = .ok (.ldc 118, 2) := by decide +kernel
theorem dX6_length_20 : decode cX6_length 20 = .ok (.invokespecial 75, 3) := by decide +kernel
theorem dX6_length_23 : decode cX6_length 23 = .ok (.athrow, 1) := by decide +kernel
theorem dX6_length_24 : decode cX6_length 24 = .ok (.aload_n 0, 1) := by decide +kernel
theorem dX6_length_25 : decode cX6_length 25 = .ok (.getfield 21, 3) := by decide +kernel
theorem dX6_length_28 : decode cX6_length 28 = .ok (.getfield 149, 3) := by decide +kernel
theorem dX6_length_31 : decode cX6_length 31 = .ok (.getfield 173, 3) := by decide +kernel
theorem dX6_length_34 : decode cX6_length 34 = .ok (.iload_n 1, 1) := by decide +kernel
theorem dX6_length_35 : decode cX6_length 35 = .ok (.iaload, 1) := by decide +kernel
theorem dX6_length_36 : decode cX6_length 36 = .ok (.ireturn, 1) := by decide +kernel
set_option maxRecDepth 20000 in
theorem ggX6_depth_X4_has : GoodIn wsX6_depth wsX4_has := goodIn_r _ [10, 11, 33, 34, 35, 36, 37, 38, 39, 40, 41] (by decide +kernel) (by decide +kernel)
set_option maxRecDepth 20000 in
theorem gX6_depth_X4_has : GoodIn wsX6_depth (wsV RX6 158 RX4 yX4_has wsX4_has) := goodIn_app (goodIn_of _ (by decide +kernel)) ggX6_depth_X4_has
theorem dX6_depth_0 : decode cX6_depth 0 = .ok (.aload_n 0, 1) := by decide +kernel
theorem dX6_depth_1 : decode cX6_depth 1 = .ok (.getfield 21, 3) := by decide +kernel
theorem dX6_depth_4 : decode cX6_depth 4 = .ok (.getfield 149, 3) := by decide +kernel
theorem dX6_depth_7 : decode cX6_depth 7 = .ok (.iload_n 1, 1) := by decide +kernel
theorem dX6_depth_8 : decode cX6_depth 8 = .ok (.invokevirtual 158, 3) := by decide +kernel
theorem dX6_depth_11 : decode cX6_depth 11 = .ok (.ifCond .ne 13, 3) := by decide +kernel
theorem dX6_depth_14 : decode cX6_depth 14 = .ok (.new 71, 3) := by decide +kernel
theorem dX6_depth_17 : decode cX6_depth 17 = .ok (.dup, 1) := by decide +kernel
theorem dX6_depth_18 : decode cX6_depth 18 = .ok (.ldc 118, 2) := by decide +kernel
theorem dX6_depth_20 : decode cX6_depth 20 = .ok (.invokespecial 75, 3) := by decide +kernel
theorem dX6_depth_23 : decode cX6_depth 23 = .ok (.athrow, 1) := by decide +kernel
theorem dX6_depth_24 : decode cX6_depth 24 = .ok (.aload_n 0, 1) := by decide +kernel
theorem dX6_depth_25 : decode cX6_depth 25 = .ok (.getfield 21, 3) := by decide +kernel
theorem dX6_depth_28 : decode cX6_depth 28 = .ok (.getfield 149, 3) := by decide +kernel
theorem dX6_depth_31 : decode cX6_depth 31 = .ok (.getfield 176, 3) := by decide +kernel
theorem dX6_depth_34 : decode cX6_depth 34 = .ok (.iload_n 1, 1) := by decide +kernel
theorem dX6_depth_35 : decode cX6_depth 35 = .ok (.iaload, 1) := by decide +kernel
theorem dX6_depth_36 : decode cX6_depth 36 = .ok (.ireturn, 1) := by decide +kernel
set_option maxRecDepth 20000 in
theorem ggX6_isOverdue_X4_has : GoodIn wsX6_isOverdue wsX4_has := goodIn_r _ [9, 10, 39, 40, 41, 42, 43, 44, 45, 46, 47] (by decide +kernel) (by decide +kernel)
set_option maxRecDepth 20000 in
theorem gX6_isOverdue_X4_has : GoodIn wsX6_isOverdue (wsV RX6 158 RX4 yX4_has wsX4_has) := goodIn_app (goodIn_of _ (by decide +kernel)) ggX6_isOverdue_X4_has
set_option maxRecDepth 20000 in
theorem ggX6_isOverdue_X4_excess : GoodIn wsX6_isOverdue wsX4_excess := goodIn_ca (goodIn_r _ [14, 15, 16, 17, 6, 7, 8, 9, 10, 39, 40, 41, 42, 43, 44, 45, 46, 47] (by decide +kernel) (by decide +kernel)) (goodIn_sub (fun _ h => List.mem_cons_of_mem _ (List.mem_append_right _ h)) (by decide +kernel))
set_option maxRecDepth 20000 in
theorem gX6_isOverdue_X4_excess : GoodIn wsX6_isOverdue (wsV RX6 179 RX4 yX4_excess wsX4_excess) := goodIn_app (goodIn_of _ (by decide +kernel)) ggX6_isOverdue_X4_excess
theorem dX6_isOverdue_0 : decode cX6_isOverdue 0 = .ok (.aload_n 0, 1) := by decide +kernel
theorem dX6_isOverdue_1 : decode cX6_isOverdue 1 = .ok (.getfield 21, 3) := by decide +kernel
theorem dX6_isOverdue_4 : decode cX6_isOverdue 4 = .ok (.getfield 149, 3) := by decide +kernel
theorem dX6_isOverdue_7 : decode cX6_isOverdue 7 = .ok (.iload_n 1, 1) := by decide +kernel
theorem dX6_isOverdue_8 : decode cX6_isOverdue 8 = .ok (.invokevirtual 158, 3) := by decide +kernel
theorem dX6_isOverdue_11 : decode cX6_isOverdue 11 = .ok (.ifCond .ne 13, 3) := by decide +kernel
theorem dX6_isOverdue_14 : decode cX6_isOverdue 14 = .ok (.new 71, 3) := by decide +kernel
theorem dX6_isOverdue_17 : decode cX6_isOverdue 17 = .ok (.dup, 1) := by decide +kernel
theorem dX6_isOverdue_18 : decode cX6_isOverdue 18 = .ok (.ldc 118, 2) := by decide +kernel
theorem dX6_isOverdue_20 : decode cX6_isOverdue 20 = .ok (.invokespecial 75, 3) := by decide +kernel
theorem dX6_isOverdue_23 : decode cX6_isOverdue 23 = .ok (.athrow, 1) := by decide +kernel
theorem dX6_isOverdue_24 : decode cX6_isOverdue 24 = .ok (.aload_n 0, 1) := by decide +kernel
theorem dX6_isOverdue_25 : decode cX6_isOverdue 25 = .ok (.getfield 21, 3) := by decide +kernel
theorem dX6_isOverdue_28 : decode cX6_isOverdue 28 = .ok (.getfield 149, 3) := by decide +kernel
theorem dX6_isOverdue_31 : decode cX6_isOverdue 31 = .ok (.iload_n 1, 1) := by decide +kernel
theorem dX6_isOverdue_32 : decode cX6_isOverdue 32 = .ok (.invokevirtual 179, 3) := by decide +kernel
theorem dX6_isOverdue_35 : decode cX6_isOverdue 35 = .ok (.ifCond .le 7, 3) := by decide +kernel
theorem dX6_isOverdue_38 : decode cX6_isOverdue 38 = .ok (.iconst 1, 1) := by decide +kernel
theorem dX6_isOverdue_39 : decode cX6_isOverdue 39 = .ok (.goto 4, 3) := by decide +kernel
theorem dX6_isOverdue_42 : decode cX6_isOverdue 42 = .ok (.iconst 0, 1) := by decide +kernel
theorem dX6_isOverdue_43 : decode cX6_isOverdue 43 = .ok (.ireturn, 1) := by decide +kernel
set_option maxRecDepth 20000 in
theorem ggX6_isSalted_X4_has : GoodIn wsX6_isSalted wsX4_has := goodIn_r _ [10, 11, 39, 40, 41, 42, 43, 44, 45, 46, 47] (by decide +kernel) (by decide +kernel)
set_option maxRecDepth 20000 in
theorem gX6_isSalted_X4_has : GoodIn wsX6_isSalted (wsV RX6 158 RX4 yX4_has wsX4_has) := goodIn_app (goodIn_of _ (by decide +kernel)) ggX6_isSalted_X4_has
set_option maxRecDepth 20000 in
theorem ggX6_isSalted_X4_saltLeft : GoodIn wsX6_isSalted wsX4_saltLeft := goodIn_ca (goodIn_r _ [15, 16, 17, 7, 8, 9, 10, 11, 39, 40, 41, 42, 43, 44, 45, 46, 47] (by decide +kernel) (by decide +kernel)) (goodIn_sub (fun _ h => List.mem_cons_of_mem _ (List.mem_append_right _ h)) (by decide +kernel))
set_option maxRecDepth 20000 in
theorem gX6_isSalted_X4_saltLeft : GoodIn wsX6_isSalted (wsV RX6 185 RX4 yX4_saltLeft wsX4_saltLeft) := goodIn_app (goodIn_of _ (by decide +kernel)) ggX6_isSalted_X4_saltLeft
theorem dX6_isSalted_0 : decode cX6_isSalted 0 = .ok (.aload_n 0, 1) := by decide +kernel
theorem dX6_isSalted_1 : decode cX6_isSalted 1 = .ok (.getfield 21, 3) := by decide +kernel
theorem dX6_isSalted_4 : decode cX6_isSalted 4 = .ok (.getfield 149, 3) := by decide +kernel
theorem dX6_isSalted_7 : decode cX6_isSalted 7 = .ok (.iload_n 1, 1) := by decide +kernel
theorem dX6_isSalted_8 : decode cX6_isSalted 8 = .ok (.invokevirtual 158, 3) := by decide +kernel
theorem dX6_isSalted_11 : decode cX6_isSalted 11 = .ok (.ifCond .ne 13, 3) := by decide +kernel
theorem dX6_isSalted_14 : decode cX6_isSalted 14 = .ok (.new 71, 3) := by decide +kernel
theorem dX6_isSalted_17 : decode cX6_isSalted 17 = .ok (.dup, 1) := by decide +kernel
theorem dX6_isSalted_18 : decode cX6_isSalted 18 = .ok (.ldc 118, 2) := by decide +kernel
theorem dX6_isSalted_20 : decode cX6_isSalted 20 = .ok (.invokespecial 75, 3) := by decide +kernel
theorem dX6_isSalted_23 : decode cX6_isSalted 23 = .ok (.athrow, 1) := by decide +kernel
theorem dX6_isSalted_24 : decode cX6_isSalted 24 = .ok (.aload_n 0, 1) := by decide +kernel
theorem dX6_isSalted_25 : decode cX6_isSalted 25 = .ok (.getfield 21, 3) := by decide +kernel
theorem dX6_isSalted_28 : decode cX6_isSalted 28 = .ok (.getfield 149, 3) := by decide +kernel
theorem dX6_isSalted_31 : decode cX6_isSalted 31 = .ok (.iload_n 1, 1) := by decide +kernel
theorem dX6_isSalted_32 : decode cX6_isSalted 32 = .ok (.aload_n 0, 1) := by decide +kernel
theorem dX6_isSalted_33 : decode cX6_isSalted 33 = .ok (.getfield 21, 3) := by decide +kernel
theorem dX6_isSalted_36 : decode cX6_isSalted 36 = .ok (.getfield 182, 3) := by decide +kernel
theorem dX6_isSalted_39 : decode cX6_isSalted 39 = .ok (.invokevirtual 185, 3) := by decide +kernel
theorem dX6_isSalted_42 : decode cX6_isSalted 42 = .ok (.ifCond .le 7, 3) := by decide +kernel
theorem dX6_isSalted_45 : decode cX6_isSalted 45 = .ok (.iconst 1, 1) := by decide +kernel
theorem dX6_isSalted_46 : decode cX6_isSalted 46 = .ok (.goto 4, 3) := by decide +kernel
theorem dX6_isSalted_49 : decode cX6_isSalted 49 = .ok (.iconst 0, 1) := by decide +kernel
theorem dX6_isSalted_50 : decode cX6_isSalted 50 = .ok (.ireturn, 1) := by decide +kernel
set_option maxRecDepth 20000 in
theorem ggX6_saltMinutes_X4_has : GoodIn wsX6_saltMinutes wsX4_has := goodIn_r _ [12, 13, 41, 42, 43, 44, 45, 46, 47, 48, 49] (by decide +kernel) (by decide +kernel)
set_option maxRecDepth 20000 in
theorem gX6_saltMinutes_X4_has : GoodIn wsX6_saltMinutes (wsV RX6 158 RX4 yX4_has wsX4_has) := goodIn_app (goodIn_of _ (by decide +kernel)) ggX6_saltMinutes_X4_has
set_option maxRecDepth 20000 in
theorem ggX6_saltMinutes_X4_saltLeft : GoodIn wsX6_saltMinutes wsX4_saltLeft := goodIn_ca (goodIn_r _ [17, 18, 19, 9, 10, 11, 12, 13, 41, 42, 43, 44, 45, 46, 47, 48, 49] (by decide +kernel) (by decide +kernel)) (goodIn_sub (fun _ h => List.mem_cons_of_mem _ (List.mem_append_right _ h)) (by decide +kernel))
set_option maxRecDepth 20000 in
theorem gX6_saltMinutes_X4_saltLeft : GoodIn wsX6_saltMinutes (wsV RX6 185 RX4 yX4_saltLeft wsX4_saltLeft) := goodIn_app (goodIn_of _ (by decide +kernel)) ggX6_saltMinutes_X4_saltLeft
theorem dX6_saltMinutes_0 : decode cX6_saltMinutes 0 = .ok (.aload_n 0, 1) := by decide +kernel
theorem dX6_saltMinutes_1 : decode cX6_saltMinutes 1 = .ok (.getfield 21, 3) := by decide +kernel
theorem dX6_saltMinutes_4 : decode cX6_saltMinutes 4 = .ok (.getfield 149, 3) := by decide +kernel
theorem dX6_saltMinutes_7 : decode cX6_saltMinutes 7 = .ok (.iload_n 1, 1) := by decide +kernel
theorem dX6_saltMinutes_8 : decode cX6_saltMinutes 8 = .ok (.invokevirtual 158, 3) := by decide +kernel
theorem dX6_saltMinutes_11 : decode cX6_saltMinutes 11 = .ok (.ifCond .ne 13, 3) := by decide +kernel
theorem dX6_saltMinutes_14 : decode cX6_saltMinutes 14 = .ok (.new 71, 3) := by decide +kernel
theorem dX6_saltMinutes_17 : decode cX6_saltMinutes 17 = .ok (.dup, 1) := by decide +kernel
theorem dX6_saltMinutes_18 : decode cX6_saltMinutes 18 = .ok (.ldc 118, 2) := by decide +kernel
theorem dX6_saltMinutes_20 : decode cX6_saltMinutes 20 = .ok (.invokespecial 75, 3) := by decide +kernel
theorem dX6_saltMinutes_23 : decode cX6_saltMinutes 23 = .ok (.athrow, 1) := by decide +kernel
theorem dX6_saltMinutes_24 : decode cX6_saltMinutes 24 = .ok (.aload_n 0, 1) := by decide +kernel
theorem dX6_saltMinutes_25 : decode cX6_saltMinutes 25 = .ok (.getfield 21, 3) := by decide +kernel
theorem dX6_saltMinutes_28 : decode cX6_saltMinutes 28 = .ok (.getfield 149, 3) := by decide +kernel
theorem dX6_saltMinutes_31 : decode cX6_saltMinutes 31 = .ok (.iload_n 1, 1) := by decide +kernel
theorem dX6_saltMinutes_32 : decode cX6_saltMinutes 32 = .ok (.aload_n 0, 1) := by decide +kernel
theorem dX6_saltMinutes_33 : decode cX6_saltMinutes 33 = .ok (.getfield 21, 3) := by decide +kernel
theorem dX6_saltMinutes_36 : decode cX6_saltMinutes 36 = .ok (.getfield 182, 3) := by decide +kernel
theorem dX6_saltMinutes_39 : decode cX6_saltMinutes 39 = .ok (.invokevirtual 185, 3) := by decide +kernel
theorem dX6_saltMinutes_42 : decode cX6_saltMinutes 42 = .ok (.istore_n 2, 1) := by decide +kernel
theorem dX6_saltMinutes_43 : decode cX6_saltMinutes 43 = .ok (.iload_n 2, 1) := by decide +kernel
theorem dX6_saltMinutes_44 : decode cX6_saltMinutes 44 = .ok (.ifCond .gt 13, 3) := by decide +kernel
theorem dX6_saltMinutes_47 : decode cX6_saltMinutes 47 = .ok (.new 110, 3) := by decide +kernel
theorem dX6_saltMinutes_50 : decode cX6_saltMinutes 50 = .ok (.dup, 1) := by decide +kernel
theorem dX6_saltMinutes_51 : decode cX6_saltMinutes 51 = .ok (.ldc 188, 2) := by decide +kernel
theorem dX6_saltMinutes_53 : decode cX6_saltMinutes 53 = .ok (.invokespecial 114, 3) := by decide +kernel
theorem dX6_saltMinutes_56 : decode cX6_saltMinutes 56 = .ok (.athrow, 1) := by decide +kernel
theorem dX6_saltMinutes_57 : decode cX6_saltMinutes 57 = .ok (.iload_n 2, 1) := by decide +kernel
theorem dX6_saltMinutes_58 : decode cX6_saltMinutes 58 = .ok (.ireturn, 1) := by decide +kernel
set_option maxRecDepth 20000 in
theorem ggX6_complaints_X4_has : GoodIn wsX6_complaints wsX4_has := goodIn_r _ [10, 11, 33, 34, 35, 36, 37, 38, 39, 40, 41] (by decide +kernel) (by decide +kernel)
set_option maxRecDepth 20000 in
theorem gX6_complaints_X4_has : GoodIn wsX6_complaints (wsV RX6 158 RX4 yX4_has wsX4_has) := goodIn_app (goodIn_of _ (by decide +kernel)) ggX6_complaints_X4_has
theorem dX6_complaints_0 : decode cX6_complaints 0 = .ok (.aload_n 0, 1) := by decide +kernel
theorem dX6_complaints_1 : decode cX6_complaints 1 = .ok (.getfield 21, 3) := by decide +kernel
theorem dX6_complaints_4 : decode cX6_complaints 4 = .ok (.getfield 149, 3) := by decide +kernel
theorem dX6_complaints_7 : decode cX6_complaints 7 = .ok (.iload_n 1, 1) := by decide +kernel
theorem dX6_complaints_8 : decode cX6_complaints 8 = .ok (.invokevirtual 158, 3) := by decide +kernel
theorem dX6_complaints_11 : decode cX6_complaints 11 = .ok (.ifCond .ne 13, 3) := by decide +kernel
theorem dX6_complaints_14 : decode cX6_complaints 14 = .ok (.new 71, 3) := by decide +kernel
theorem dX6_complaints_17 : decode cX6_complaints 17 = .ok (.dup, 1) := by decide +kernel
theorem dX6_complaints_18 : decode cX6_complaints 18 = .ok (.ldc 118, 2) := by decide +kernel
theorem dX6_complaints_20 : decode cX6_complaints 20 = .ok (.invokespecial 75, 3) := by decide +kernel
theorem dX6_complaints_23 : decode cX6_complaints 23 = .ok (.athrow, 1) := by decide +kernel
theorem dX6_complaints_24 : decode cX6_complaints 24 = .ok (.aload_n 0, 1) := by decide +kernel
theorem dX6_complaints_25 : decode cX6_complaints 25 = .ok (.getfield 21, 3) := by decide +kernel
theorem dX6_complaints_28 : decode cX6_complaints 28 = .ok (.getfield 149, 3) := by decide +kernel
theorem dX6_complaints_31 : decode cX6_complaints 31 = .ok (.getfield 190, 3) := by decide +kernel
theorem dX6_complaints_34 : decode cX6_complaints 34 = .ok (.iload_n 1, 1) := by decide +kernel
theorem dX6_complaints_35 : decode cX6_complaints 35 = .ok (.iaload, 1) := by decide +kernel
theorem dX6_complaints_36 : decode cX6_complaints 36 = .ok (.ireturn, 1) := by decide +kernel
set_option maxRecDepth 20000 in
theorem ggX6_distance_X6_isJunction : GoodIn wsX6_distance wsX6_isJunction := goodIn_r _ [12] (by decide +kernel) (by decide +kernel)
set_option maxRecDepth 20000 in
theorem gX6_distance_X6_isJunction : GoodIn wsX6_distance (va_wsS RX6 193 yX6_isJunction wsX6_isJunction) := goodIn_app (goodIn_of _ (by decide +kernel)) ggX6_distance_X6_isJunction
set_option maxRecDepth 20000 in
theorem ggX6_distance_X1_measureFrom : GoodIn wsX6_distance wsX1_measureFrom := goodIn_ca (goodIn_r _ [17, 18, 19, 20, 21, 22, 23, 24, 25, 26, 27, 28, 29, 16, 30, 10, 11, 12, 31, 32, 33, 34, 35, 36, 37, 63, 64, 65, 66, 67, 68, 69, 70, 71, 72, 73, 74] (by decide +kernel) (by decide +kernel)) (goodIn_sub (fun _ h => List.mem_cons_of_mem _ (List.mem_append_right _ h)) (by decide +kernel))
set_option maxRecDepth 20000 in
theorem gX6_distance_X1_measureFrom : GoodIn wsX6_distance (wsV RX6 196 RX1 yX1_measureFrom wsX1_measureFrom) := goodIn_app (goodIn_of _ (by decide +kernel)) ggX6_distance_X1_measureFrom
set_option maxRecDepth 20000 in
theorem ggX6_distance_X1_reachOf : GoodIn wsX6_distance wsX1_reachOf := goodIn_ca (goodIn_r _ [41, 18, 19, 10, 11, 12, 63, 64, 65] (by decide +kernel) (by decide +kernel)) (goodIn_sub (fun _ h => List.mem_cons_of_mem _ (List.mem_append_right _ h)) (by decide +kernel))
set_option maxRecDepth 20000 in
theorem gX6_distance_X1_reachOf : GoodIn wsX6_distance (wsV RX6 200 RX1 yX1_reachOf wsX1_reachOf) := goodIn_app (goodIn_of _ (by decide +kernel)) ggX6_distance_X1_reachOf
theorem dX6_distance_0 : decode cX6_distance 0 = .ok (.iload_n 1, 1) := by decide +kernel
theorem dX6_distance_1 : decode cX6_distance 1 = .ok (.invokestatic 193, 3) := by decide +kernel
theorem dX6_distance_4 : decode cX6_distance 4 = .ok (.ifCond .eq 10, 3) := by decide +kernel
theorem dX6_distance_7 : decode cX6_distance 7 = .ok (.iload_n 2, 1) := by decide +kernel
theorem dX6_distance_8 : decode cX6_distance 8 = .ok (.invokestatic 193, 3) := by decide +kernel
theorem dX6_distance_11 : decode cX6_distance 11 = .ok (.ifCond .ne 13, 3) := by decide +kernel
theorem dX6_distance_14 : decode cX6_distance 14 = .ok (.new 71, 3) := by decide +kernel
theorem dX6_distance_17 : decode cX6_distance 17 = .ok (.dup, 1) := by decide +kernel
theorem dX6_distance_18 : decode cX6_distance 18 = .ok (.ldc 73, 2) := by decide +kernel
theorem dX6_distance_20 : decode cX6_distance 20 = .ok (.invokespecial 75, 3) := by decide +kernel
theorem dX6_distance_23 : decode cX6_distance 23 = .ok (.athrow, 1) := by decide +kernel
theorem dX6_distance_24 : decode cX6_distance 24 = .ok (.aload_n 0, 1) := by decide +kernel
theorem dX6_distance_25 : decode cX6_distance 25 = .ok (.getfield 10, 3) := by decide +kernel
theorem dX6_distance_28 : decode cX6_distance 28 = .ok (.iload_n 1, 1) := by decide +kernel
theorem dX6_distance_29 : decode cX6_distance 29 = .ok (.aload_n 0, 1) := by decide +kernel
theorem dX6_distance_30 : decode cX6_distance 30 = .ok (.getfield 21, 3) := by decide +kernel
theorem dX6_distance_33 : decode cX6_distance 33 = .ok (.getfield 149, 3) := by decide +kernel
theorem dX6_distance_36 : decode cX6_distance 36 = .ok (.invokevirtual 196, 3) := by decide +kernel
theorem dX6_distance_39 : decode cX6_distance 39 = .ok (.aload_n 0, 1) := by decide +kernel
theorem dX6_distance_40 : decode cX6_distance 40 = .ok (.getfield 10, 3) := by decide +kernel
theorem dX6_distance_43 : decode cX6_distance 43 = .ok (.iload_n 2, 1) := by decide +kernel
theorem dX6_distance_44 : decode cX6_distance 44 = .ok (.invokevirtual 200, 3) := by decide +kernel
theorem dX6_distance_47 : decode cX6_distance 47 = .ok (.istore_n 3, 1) := by decide +kernel
theorem dX6_distance_48 : decode cX6_distance 48 = .ok (.iload_n 3, 1) := by decide +kernel
theorem dX6_distance_49 : decode cX6_distance 49 = .ok (.ldc 203, 2) := by decide +kernel
theorem dX6_distance_51 : decode cX6_distance 51 = .ok (.if_icmp .lt 13, 3) := by decide +kernel
theorem dX6_distance_54 : decode cX6_distance 54 = .ok (.new 110, 3) := by decide +kernel
theorem dX6_distance_57 : decode cX6_distance 57 = .ok (.dup, 1) := by decide +kernel
theorem dX6_distance_58 : decode cX6_distance 58 = .ok (.ldc 204, 2) := by decide +kernel
theorem dX6_distance_60 : decode cX6_distance 60 = .ok (.invokespecial 114, 3) := by decide +kernel
theorem dX6_distance_63 : decode cX6_distance 63 = .ok (.athrow, 1) := by decide +kernel
theorem dX6_distance_64 : decode cX6_distance 64 = .ok (.iload_n 3, 1) := by decide +kernel
theorem dX6_distance_65 : decode cX6_distance 65 = .ok (.ireturn, 1) := by decide +kernel
set_option maxRecDepth 20000 in
theorem ggX6_distanceByJunctions_X6_isJunction : GoodIn wsX6_distanceByJunctions wsX6_isJunction := goodIn_r _ [12] (by decide +kernel) (by decide +kernel)
set_option maxRecDepth 20000 in
theorem gX6_distanceByJunctions_X6_isJunction : GoodIn wsX6_distanceByJunctions (va_wsS RX6 193 yX6_isJunction wsX6_isJunction) := goodIn_app (goodIn_of _ (by decide +kernel)) ggX6_distanceByJunctions_X6_isJunction
set_option maxRecDepth 20000 in
theorem ggX6_distanceByJunctions_X1_improveAll : GoodIn wsX6_distanceByJunctions wsX1_improveAll := goodIn_ca (goodIn_r _ [17, 18, 19, 20, 21, 22, 23, 24, 25, 26, 16, 27, 10, 11, 12, 28, 29, 30, 31, 32, 33, 34, 35, 58, 59, 60, 61, 62, 63, 64, 65, 66, 67, 68, 69] (by decide +kernel) (by decide +kernel)) (goodIn_sub (fun _ h => List.mem_cons_of_mem _ (List.mem_append_right _ h)) (by decide +kernel))
set_option maxRecDepth 20000 in
theorem gX6_distanceByJunctions_X1_improveAll : GoodIn wsX6_distanceByJunctions (wsV RX6 206 RX1 yX1_improveAll wsX1_improveAll) := goodIn_app (goodIn_of _ (by decide +kernel)) ggX6_distanceByJunctions_X1_improveAll
set_option maxRecDepth 20000 in
theorem ggX6_distanceByJunctions_X1_between : GoodIn wsX6_distanceByJunctions wsX1_between := goodIn_ca (goodIn_r _ [35, 18, 19, 10, 11, 12, 58, 59, 60] (by decide +kernel) (by decide +kernel)) (goodIn_sub (fun _ h => List.mem_cons_of_mem _ (List.mem_append_right _ h)) (by decide +kernel))
set_option maxRecDepth 20000 in
theorem gX6_distanceByJunctions_X1_between : GoodIn wsX6_distanceByJunctions (wsV RX6 210 RX1 yX1_between wsX1_between) := goodIn_app (goodIn_of _ (by decide +kernel)) ggX6_distanceByJunctions_X1_between
theorem dX6_distanceByJunctions_0 : decode cX6_distanceByJunctions 0 = .ok (.iload_n 1, 1) := by decide +kernel
theorem dX6_distanceByJunctions_1 : decode cX6_distanceByJunctions 1 = .ok (.invokestatic 193, 3) := by decide +kernel
theorem dX6_distanceByJunctions_4 : decode cX6_distanceByJunctions 4 = .ok (.ifCond .eq 10, 3) := by decide +kernel
theorem dX6_distanceByJunctions_7 : decode cX6_distanceByJunctions 7 = .ok (.iload_n 2, 1) := by decide +kernel
theorem dX6_distanceByJunctions_8 : decode cX6_distanceByJunctions 8 = .ok (.invokestatic 193, 3) := by decide +kernel
theorem dX6_distanceByJunctions_11 : decode cX6_distanceByJunctions 11 = .ok (.ifCond .ne 13, 3) := by decide +kernel
theorem dX6_distanceByJunctions_14 : decode cX6_distanceByJunctions 14 = .ok (.new 71, 3) := by decide +kernel
theorem dX6_distanceByJunctions_17 : decode cX6_distanceByJunctions 17 = .ok (.dup, 1) := by decide +kernel
theorem dX6_distanceByJunctions_18 : decode cX6_distanceByJunctions 18 = .ok (.ldc 73, 2) := by decide +kernel
theorem dX6_distanceByJunctions_20 : decode cX6_distanceByJunctions 20 = .ok (.invokespecial 75, 3) := by decide +kernel
theorem dX6_distanceByJunctions_23 : decode cX6_distanceByJunctions 23 = .ok (.athrow, 1) := by decide +kernel
theorem dX6_distanceByJunctions_24 : decode cX6_distanceByJunctions 24 = .ok (.aload_n 0, 1) := by decide +kernel
theorem dX6_distanceByJunctions_25 : decode cX6_distanceByJunctions 25 = .ok (.getfield 10, 3) := by decide +kernel
theorem dX6_distanceByJunctions_28 : decode cX6_distanceByJunctions 28 = .ok (.aload_n 0, 1) := by decide +kernel
theorem dX6_distanceByJunctions_29 : decode cX6_distanceByJunctions 29 = .ok (.getfield 21, 3) := by decide +kernel
theorem dX6_distanceByJunctions_32 : decode cX6_distanceByJunctions 32 = .ok (.getfield 149, 3) := by decide +kernel
theorem dX6_distanceByJunctions_35 : decode cX6_distanceByJunctions 35 = .ok (.invokevirtual 206, 3) := by decide +kernel
theorem dX6_distanceByJunctions_38 : decode cX6_distanceByJunctions 38 = .ok (.aload_n 0, 1) := by decide +kernel
theorem dX6_distanceByJunctions_39 : decode cX6_distanceByJunctions 39 = .ok (.getfield 10, 3) := by decide +kernel
theorem dX6_distanceByJunctions_42 : decode cX6_distanceByJunctions 42 = .ok (.iload_n 1, 1) := by decide +kernel
theorem dX6_distanceByJunctions_43 : decode cX6_distanceByJunctions 43 = .ok (.iload_n 2, 1) := by decide +kernel
theorem dX6_distanceByJunctions_44 : decode cX6_distanceByJunctions 44 = .ok (.invokevirtual 210, 3) := by decide +kernel
theorem dX6_distanceByJunctions_47 : decode cX6_distanceByJunctions 47 = .ok (.istore_n 3, 1) := by decide +kernel
theorem dX6_distanceByJunctions_48 : decode cX6_distanceByJunctions 48 = .ok (.iload_n 3, 1) := by decide +kernel
theorem dX6_distanceByJunctions_49 : decode cX6_distanceByJunctions 49 = .ok (.ldc 203, 2) := by decide +kernel
theorem dX6_distanceByJunctions_51 : decode cX6_distanceByJunctions 51 = .ok (.if_icmp .lt 13, 3) := by decide +kernel
theorem dX6_distanceByJunctions_54 : decode cX6_distanceByJunctions 54 = .ok (.new 110, 3) := by decide +kernel
theorem dX6_distanceByJunctions_57 : decode cX6_distanceByJunctions 57 = .ok (.dup, 1) := by decide +kernel
theorem dX6_distanceByJunctions_58 : decode cX6_distanceByJunctions 58 = .ok (.ldc 204, 2) := by decide +kernel
theorem dX6_distanceByJunctions_60 : decode cX6_distanceByJunctions 60 = .ok (.invokespecial 114, 3) := by decide +kernel
theorem dX6_distanceByJunctions_63 : decode cX6_distanceByJunctions 63 = .ok (.athrow, 1) := by decide +kernel
theorem dX6_distanceByJunctions_64 : decode cX6_distanceByJunctions 64 = .ok (.iload_n 3, 1) := by decide +kernel
theorem dX6_distanceByJunctions_65 : decode cX6_distanceByJunctions 65 = .ok (.ireturn, 1) := by decide +kernel
set_option maxRecDepth 20000 in
theorem ggX6_streetByUrgency_X4_atRank : GoodIn wsX6_streetByUrgency wsX4_atRank := goodIn_ca (goodIn_r _ [9, 10, 11, 12, 13, 8, 14, 15, 16, 17, 18, 19, 20, 21, 22, 23, 24, 25, 26, 27, 28, 50, 51, 52, 53, 54, 55, 56, 57, 58] (by decide +kernel) (by decide +kernel)) (goodIn_sub (fun _ h => List.mem_cons_of_mem _ (List.mem_append_right _ h)) (by decide +kernel))
set_option maxRecDepth 20000 in
theorem gX6_streetByUrgency_X4_atRank : GoodIn wsX6_streetByUrgency (wsV RX6 213 RX4 yX4_atRank wsX4_atRank) := goodIn_app (goodIn_of _ (by decide +kernel)) ggX6_streetByUrgency_X4_atRank
theorem dX6_streetByUrgency_0 : decode cX6_streetByUrgency 0 = .ok (.aload_n 0, 1) := by decide +kernel
theorem dX6_streetByUrgency_1 : decode cX6_streetByUrgency 1 = .ok (.getfield 21, 3) := by decide +kernel
theorem dX6_streetByUrgency_4 : decode cX6_streetByUrgency 4 = .ok (.getfield 149, 3) := by decide +kernel
theorem dX6_streetByUrgency_7 : decode cX6_streetByUrgency 7 = .ok (.iload_n 1, 1) := by decide +kernel
theorem dX6_streetByUrgency_8 : decode cX6_streetByUrgency 8 = .ok (.invokevirtual 213, 3) := by decide +kernel
theorem dX6_streetByUrgency_11 : decode cX6_streetByUrgency 11 = .ok (.istore_n 2, 1) := by decide +kernel
theorem dX6_streetByUrgency_12 : decode cX6_streetByUrgency 12 = .ok (.iload_n 2, 1) := by decide +kernel
theorem dX6_streetByUrgency_13 : decode cX6_streetByUrgency 13 = .ok (.ifCond .ge 13, 3) := by decide +kernel
theorem dX6_streetByUrgency_16 : decode cX6_streetByUrgency 16 = .ok (.new 110, 3) := by decide +kernel
theorem dX6_streetByUrgency_19 : decode cX6_streetByUrgency 19 = .ok (.dup, 1) := by decide +kernel
theorem dX6_streetByUrgency_20 : decode cX6_streetByUrgency 20 = .ok (.ldc 216, 2) := by decide +kernel
theorem dX6_streetByUrgency_22 : decode cX6_streetByUrgency 22 = .ok (.invokespecial 114, 3) := by decide +kernel
theorem dX6_streetByUrgency_25 : decode cX6_streetByUrgency 25 = .ok (.athrow, 1) := by decide +kernel
theorem dX6_streetByUrgency_26 : decode cX6_streetByUrgency 26 = .ok (.iload_n 2, 1) := by decide +kernel
theorem dX6_streetByUrgency_27 : decode cX6_streetByUrgency 27 = .ok (.ireturn, 1) := by decide +kernel
theorem dX6_ploughCount_0 : decode cX6_ploughCount 0 = .ok (.aload_n 0, 1) := by decide +kernel
theorem dX6_ploughCount_1 : decode cX6_ploughCount 1 = .ok (.getfield 21, 3) := by decide +kernel
theorem dX6_ploughCount_4 : decode cX6_ploughCount 4 = .ok (.getfield 218, 3) := by decide +kernel
theorem dX6_ploughCount_7 : decode cX6_ploughCount 7 = .ok (.getfield 222, 3) := by decide +kernel
theorem dX6_ploughCount_10 : decode cX6_ploughCount 10 = .ok (.ireturn, 1) := by decide +kernel
set_option maxRecDepth 20000 in
theorem ggX6_isBusy_X2_has : GoodIn wsX6_isBusy wsX2_has := goodIn_r _ [10, 11, 33, 34, 35, 36, 37, 38] (by decide +kernel) (by decide +kernel)
set_option maxRecDepth 20000 in
theorem gX6_isBusy_X2_has : GoodIn wsX6_isBusy (wsV RX6 225 RX2 yX2_has wsX2_has) := goodIn_app (goodIn_of _ (by decide +kernel)) ggX6_isBusy_X2_has
theorem dX6_isBusy_0 : decode cX6_isBusy 0 = .ok (.aload_n 0, 1) := by decide +kernel
theorem dX6_isBusy_1 : decode cX6_isBusy 1 = .ok (.getfield 21, 3) := by decide +kernel
theorem dX6_isBusy_4 : decode cX6_isBusy 4 = .ok (.getfield 218, 3) := by decide +kernel
theorem dX6_isBusy_7 : decode cX6_isBusy 7 = .ok (.iload_n 1, 1) := by decide +kernel
theorem dX6_isBusy_8 : decode cX6_isBusy 8 = .ok (.invokevirtual 225, 3) := by decide +kernel
theorem dX6_isBusy_11 : decode cX6_isBusy 11 = .ok (.ifCond .ne 13, 3) := by decide +kernel
theorem dX6_isBusy_14 : decode cX6_isBusy 14 = .ok (.new 71, 3) := by decide +kernel
theorem dX6_isBusy_17 : decode cX6_isBusy 17 = .ok (.dup, 1) := by decide +kernel
theorem dX6_isBusy_18 : decode cX6_isBusy 18 = .ok (.ldc 108, 2) := by decide +kernel
theorem dX6_isBusy_20 : decode cX6_isBusy 20 = .ok (.invokespecial 75, 3) := by decide +kernel
theorem dX6_isBusy_23 : decode cX6_isBusy 23 = .ok (.athrow, 1) := by decide +kernel
theorem dX6_isBusy_24 : decode cX6_isBusy 24 = .ok (.aload_n 0, 1) := by decide +kernel
theorem dX6_isBusy_25 : decode cX6_isBusy 25 = .ok (.getfield 21, 3) := by decide +kernel
theorem dX6_isBusy_28 : decode cX6_isBusy 28 = .ok (.getfield 218, 3) := by decide +kernel
theorem dX6_isBusy_31 : decode cX6_isBusy 31 = .ok (.getfield 226, 3) := by decide +kernel
theorem dX6_isBusy_34 : decode cX6_isBusy 34 = .ok (.iload_n 1, 1) := by decide +kernel
theorem dX6_isBusy_35 : decode cX6_isBusy 35 = .ok (.iaload, 1) := by decide +kernel
theorem dX6_isBusy_36 : decode cX6_isBusy 36 = .ok (.ifCond .le 7, 3) := by decide +kernel
theorem dX6_isBusy_39 : decode cX6_isBusy 39 = .ok (.iconst 1, 1) := by decide +kernel
theorem dX6_isBusy_40 : decode cX6_isBusy 40 = .ok (.goto 4, 3) := by decide +kernel
theorem dX6_isBusy_43 : decode cX6_isBusy 43 = .ok (.iconst 0, 1) := by decide +kernel
theorem dX6_isBusy_44 : decode cX6_isBusy 44 = .ok (.ireturn, 1) := by decide +kernel
set_option maxRecDepth 20000 in
theorem ggX6_junction_X2_has : GoodIn wsX6_junction wsX2_has := goodIn_r _ [10, 11, 33, 34, 35, 36, 37, 38] (by decide +kernel) (by decide +kernel)
set_option maxRecDepth 20000 in
theorem gX6_junction_X2_has : GoodIn wsX6_junction (wsV RX6 225 RX2 yX2_has wsX2_has) := goodIn_app (goodIn_of _ (by decide +kernel)) ggX6_junction_X2_has
theorem dX6_junction_0 : decode cX6_junction 0 = .ok (.aload_n 0, 1) := by decide +kernel
theorem dX6_junction_1 : decode cX6_junction 1 = .ok (.getfield 21, 3) := by decide +kernel
theorem dX6_junction_4 : decode cX6_junction 4 = .ok (.getfield 218, 3) := by decide +kernel
theorem dX6_junction_7 : decode cX6_junction 7 = .ok (.iload_n 1, 1) := by decide +kernel
theorem dX6_junction_8 : decode cX6_junction 8 = .ok (.invokevirtual 225, 3) := by decide +kernel
theorem dX6_junction_11 : decode cX6_junction 11 = .ok (.ifCond .ne 13, 3) := by decide +kernel
theorem dX6_junction_14 : decode cX6_junction 14 = .ok (.new 71, 3) := by decide +kernel
theorem dX6_junction_17 : decode cX6_junction 17 = .ok (.dup, 1) := by decide +kernel
theorem dX6_junction_18 : decode cX6_junction 18 = .ok (.ldc 108, 2) := by decide +kernel
theorem dX6_junction_20 : decode cX6_junction 20 = .ok (.invokespecial 75, 3) := by decide +kernel
theorem dX6_junction_23 : decode cX6_junction 23 = .ok (.athrow, 1) := by decide +kernel
theorem dX6_junction_24 : decode cX6_junction 24 = .ok (.aload_n 0, 1) := by decide +kernel
theorem dX6_junction_25 : decode cX6_junction 25 = .ok (.getfield 21, 3) := by decide +kernel
theorem dX6_junction_28 : decode cX6_junction 28 = .ok (.getfield 218, 3) := by decide +kernel
theorem dX6_junction_31 : decode cX6_junction 31 = .ok (.getfield 229, 3) := by decide +kernel
theorem dX6_junction_34 : decode cX6_junction 34 = .ok (.iload_n 1, 1) := by decide +kernel
theorem dX6_junction_35 : decode cX6_junction 35 = .ok (.iaload, 1) := by decide +kernel
theorem dX6_junction_36 : decode cX6_junction 36 = .ok (.ireturn, 1) := by decide +kernel
set_option maxRecDepth 20000 in
theorem ggX6_currentStreet_X2_has : GoodIn wsX6_currentStreet wsX2_has := goodIn_r _ [13, 14, 36, 37, 38, 39, 40, 41] (by decide +kernel) (by decide +kernel)
set_option maxRecDepth 20000 in
theorem gX6_currentStreet_X2_has : GoodIn wsX6_currentStreet (wsV RX6 225 RX2 yX2_has wsX2_has) := goodIn_app (goodIn_of _ (by decide +kernel)) ggX6_currentStreet_X2_has
theorem dX6_currentStreet_0 : decode cX6_currentStreet 0 = .ok (.aload_n 0, 1) := by decide +kernel
theorem dX6_currentStreet_1 : decode cX6_currentStreet 1 = .ok (.getfield 21, 3) := by decide +kernel
theorem dX6_currentStreet_4 : decode cX6_currentStreet 4 = .ok (.getfield 218, 3) := by decide +kernel
theorem dX6_currentStreet_7 : decode cX6_currentStreet 7 = .ok (.iload_n 1, 1) := by decide +kernel
theorem dX6_currentStreet_8 : decode cX6_currentStreet 8 = .ok (.invokevirtual 225, 3) := by decide +kernel
theorem dX6_currentStreet_11 : decode cX6_currentStreet 11 = .ok (.ifCond .ne 13, 3) := by decide +kernel
theorem dX6_currentStreet_14 : decode cX6_currentStreet 14 = .ok (.new 71, 3) := by decide +kernel
theorem dX6_currentStreet_17 : decode cX6_currentStreet 17 = .ok (.dup, 1) := by decide +kernel
theorem dX6_currentStreet_18 : decode cX6_currentStreet 18 = .ok (.ldc 108, 2) := by decide +kernel
theorem dX6_currentStreet_20 : decode cX6_currentStreet 20 = .ok (.invokespecial 75, 3) := by decide +kernel
theorem dX6_currentStreet_23 : decode cX6_currentStreet 23 = .ok (.athrow, 1) := by decide +kernel
theorem dX6_currentStreet_24 : decode cX6_currentStreet 24 = .ok (.aload_n 0, 1) := by decide +kernel
theorem dX6_currentStreet_25 : decode cX6_currentStreet 25 = .ok (.getfield 21, 3) := by decide +kernel
theorem dX6_currentStreet_28 : decode cX6_currentStreet 28 = .ok (.getfield 218, 3) := by decide +kernel
theorem dX6_currentStreet_31 : decode cX6_currentStreet 31 = .ok (.getfield 226, 3) := by decide +kernel
theorem dX6_currentStreet_34 : decode cX6_currentStreet 34 = .ok (.iload_n 1, 1) := by decide +kernel
theorem dX6_currentStreet_35 : decode cX6_currentStreet 35 = .ok (.iaload, 1) := by decide +kernel
theorem dX6_currentStreet_36 : decode cX6_currentStreet 36 = .ok (.ifCond .gt 13, 3) := by decide +kernel
theorem dX6_currentStreet_39 : decode cX6_currentStreet 39 = .ok (.new 110, 3) := by decide +kernel
theorem dX6_currentStreet_42 : decode cX6_currentStreet 42 = .ok (.dup, 1) := by decide +kernel
theorem dX6_currentStreet_43 : decode cX6_currentStreet 43 = .ok (.ldc 232, 2) := by decide +kernel
theorem dX6_currentStreet_45 : decode cX6_currentStreet 45 = .ok (.invokespecial 114, 3) := by decide +kernel
theorem dX6_currentStreet_48 : decode cX6_currentStreet 48 = .ok (.athrow, 1) := by decide +kernel
theorem dX6_currentStreet_49 : decode cX6_currentStreet 49 = .ok (.aload_n 0, 1) := by decide +kernel
theorem dX6_currentStreet_50 : decode cX6_currentStreet 50 = .ok (.getfield 21, 3) := by decide +kernel
theorem dX6_currentStreet_53 : decode cX6_currentStreet 53 = .ok (.getfield 218, 3) := by decide +kernel
theorem dX6_currentStreet_56 : decode cX6_currentStreet 56 = .ok (.getfield 234, 3) := by decide +kernel
theorem dX6_currentStreet_59 : decode cX6_currentStreet 59 = .ok (.iload_n 1, 1) := by decide +kernel
theorem dX6_currentStreet_60 : decode cX6_currentStreet 60 = .ok (.iaload, 1) := by decide +kernel
theorem dX6_currentStreet_61 : decode cX6_currentStreet 61 = .ok (.ireturn, 1) := by decide +kernel
set_option maxRecDepth 20000 in
theorem ggX6_busyMinutes_X2_has : GoodIn wsX6_busyMinutes wsX2_has := goodIn_r _ [10, 11, 33, 34, 35, 36, 37, 38] (by decide +kernel) (by decide +kernel)
set_option maxRecDepth 20000 in
theorem gX6_busyMinutes_X2_has : GoodIn wsX6_busyMinutes (wsV RX6 225 RX2 yX2_has wsX2_has) := goodIn_app (goodIn_of _ (by decide +kernel)) ggX6_busyMinutes_X2_has
theorem dX6_busyMinutes_0 : decode cX6_busyMinutes 0 = .ok (.aload_n 0, 1) := by decide +kernel
theorem dX6_busyMinutes_1 : decode cX6_busyMinutes 1 = .ok (.getfield 21, 3) := by decide +kernel
theorem dX6_busyMinutes_4 : decode cX6_busyMinutes 4 = .ok (.getfield 218, 3) := by decide +kernel
theorem dX6_busyMinutes_7 : decode cX6_busyMinutes 7 = .ok (.iload_n 1, 1) := by decide +kernel
theorem dX6_busyMinutes_8 : decode cX6_busyMinutes 8 = .ok (.invokevirtual 225, 3) := by decide +kernel
theorem dX6_busyMinutes_11 : decode cX6_busyMinutes 11 = .ok (.ifCond .ne 13, 3) := by decide +kernel
theorem dX6_busyMinutes_14 : decode cX6_busyMinutes 14 = .ok (.new 71, 3) := by decide +kernel
theorem dX6_busyMinutes_17 : decode cX6_busyMinutes 17 = .ok (.dup, 1) := by decide +kernel
theorem dX6_busyMinutes_18 : decode cX6_busyMinutes 18 = .ok (.ldc 108, 2) := by decide +kernel
theorem dX6_busyMinutes_20 : decode cX6_busyMinutes 20 = .ok (.invokespecial 75, 3) := by decide +kernel
theorem dX6_busyMinutes_23 : decode cX6_busyMinutes 23 = .ok (.athrow, 1) := by decide +kernel
theorem dX6_busyMinutes_24 : decode cX6_busyMinutes 24 = .ok (.aload_n 0, 1) := by decide +kernel
theorem dX6_busyMinutes_25 : decode cX6_busyMinutes 25 = .ok (.getfield 21, 3) := by decide +kernel
theorem dX6_busyMinutes_28 : decode cX6_busyMinutes 28 = .ok (.getfield 218, 3) := by decide +kernel
theorem dX6_busyMinutes_31 : decode cX6_busyMinutes 31 = .ok (.getfield 226, 3) := by decide +kernel
theorem dX6_busyMinutes_34 : decode cX6_busyMinutes 34 = .ok (.iload_n 1, 1) := by decide +kernel
theorem dX6_busyMinutes_35 : decode cX6_busyMinutes 35 = .ok (.iaload, 1) := by decide +kernel
theorem dX6_busyMinutes_36 : decode cX6_busyMinutes 36 = .ok (.ireturn, 1) := by decide +kernel
set_option maxRecDepth 20000 in
theorem ggX6_queueLength_X2_has : GoodIn wsX6_queueLength wsX2_has := goodIn_r _ [10, 11, 33, 34, 35, 36, 37, 38] (by decide +kernel) (by decide +kernel)
set_option maxRecDepth 20000 in
theorem gX6_queueLength_X2_has : GoodIn wsX6_queueLength (wsV RX6 225 RX2 yX2_has wsX2_has) := goodIn_app (goodIn_of _ (by decide +kernel)) ggX6_queueLength_X2_has
theorem dX6_queueLength_0 : decode cX6_queueLength 0 = .ok (.aload_n 0, 1) := by decide +kernel
theorem dX6_queueLength_1 : decode cX6_queueLength 1 = .ok (.getfield 21, 3) := by decide +kernel
theorem dX6_queueLength_4 : decode cX6_queueLength 4 = .ok (.getfield 218, 3) := by decide +kernel
theorem dX6_queueLength_7 : decode cX6_queueLength 7 = .ok (.iload_n 1, 1) := by decide +kernel
theorem dX6_queueLength_8 : decode cX6_queueLength 8 = .ok (.invokevirtual 225, 3) := by decide +kernel
theorem dX6_queueLength_11 : decode cX6_queueLength 11 = .ok (.ifCond .ne 13, 3) := by decide +kernel
theorem dX6_queueLength_14 : decode cX6_queueLength 14 = .ok (.new 71, 3) := by decide +kernel
theorem dX6_queueLength_17 : decode cX6_queueLength 17 = .ok (.dup, 1) := by decide +kernel
theorem dX6_queueLength_18 : decode cX6_queueLength 18 = .ok (.ldc 108, 2) := by decide +kernel
theorem dX6_queueLength_20 : decode cX6_queueLength 20 = .ok (.invokespecial 75, 3) := by decide +kernel
theorem dX6_queueLength_23 : decode cX6_queueLength 23 = .ok (.athrow, 1) := by decide +kernel
theorem dX6_queueLength_24 : decode cX6_queueLength 24 = .ok (.aload_n 0, 1) := by decide +kernel
theorem dX6_queueLength_25 : decode cX6_queueLength 25 = .ok (.getfield 21, 3) := by decide +kernel
theorem dX6_queueLength_28 : decode cX6_queueLength 28 = .ok (.getfield 218, 3) := by decide +kernel
theorem dX6_queueLength_31 : decode cX6_queueLength 31 = .ok (.getfield 237, 3) := by decide +kernel
theorem dX6_queueLength_34 : decode cX6_queueLength 34 = .ok (.iload_n 1, 1) := by decide +kernel
theorem dX6_queueLength_35 : decode cX6_queueLength 35 = .ok (.iaload, 1) := by decide +kernel
theorem dX6_queueLength_36 : decode cX6_queueLength 36 = .ok (.ireturn, 1) := by decide +kernel
set_option maxRecDepth 20000 in
theorem ggX6_queuedStreet_X2_has : GoodIn wsX6_queuedStreet wsX2_has := goodIn_r _ [11, 12, 41, 42, 43, 44, 45, 46] (by decide +kernel) (by decide +kernel)
set_option maxRecDepth 20000 in
theorem gX6_queuedStreet_X2_has : GoodIn wsX6_queuedStreet (wsV RX6 225 RX2 yX2_has wsX2_has) := goodIn_app (goodIn_of _ (by decide +kernel)) ggX6_queuedStreet_X2_has
set_option maxRecDepth 20000 in
theorem ggX6_queuedStreet_X2_waitingAt : GoodIn wsX6_queuedStreet wsX2_waitingAt := goodIn_ca (goodIn_r _ [16, 17, 18, 19, 8, 9, 10, 11, 12, 41, 42, 43, 44, 45, 46] (by decide +kernel) (by decide +kernel)) (goodIn_sub (fun _ h => List.mem_cons_of_mem _ (List.mem_append_right _ h)) (by decide +kernel))
set_option maxRecDepth 20000 in
theorem gX6_queuedStreet_X2_waitingAt : GoodIn wsX6_queuedStreet (wsV RX6 240 RX2 yX2_waitingAt wsX2_waitingAt) := goodIn_app (goodIn_of _ (by decide +kernel)) ggX6_queuedStreet_X2_waitingAt
theorem dX6_queuedStreet_0 : decode cX6_queuedStreet 0 = .ok (.aload_n 0, 1) := by decide +kernel
theorem dX6_queuedStreet_1 : decode cX6_queuedStreet 1 = .ok (.getfield 21, 3) := by decide +kernel
theorem dX6_queuedStreet_4 : decode cX6_queuedStreet 4 = .ok (.getfield 218, 3) := by decide +kernel
theorem dX6_queuedStreet_7 : decode cX6_queuedStreet 7 = .ok (.iload_n 1, 1) := by decide +kernel
theorem dX6_queuedStreet_8 : decode cX6_queuedStreet 8 = .ok (.invokevirtual 225, 3) := by decide +kernel
theorem dX6_queuedStreet_11 : decode cX6_queuedStreet 11 = .ok (.ifCond .ne 13, 3) := by decide +kernel
theorem dX6_queuedStreet_14 : decode cX6_queuedStreet 14 = .ok (.new 71, 3) := by decide +kernel
theorem dX6_queuedStreet_17 : decode cX6_queuedStreet 17 = .ok (.dup, 1) := by decide +kernel
theorem dX6_queuedStreet_18 : decode cX6_queuedStreet 18 = .ok (.ldc 108, 2) := by decide +kernel
theorem dX6_queuedStreet_20 : decode cX6_queuedStreet 20 = .ok (.invokespecial 75, 3) := by decide +kernel
theorem dX6_queuedStreet_23 : decode cX6_queuedStreet 23 = .ok (.athrow, 1) := by decide +kernel
theorem dX6_queuedStreet_24 : decode cX6_queuedStreet 24 = .ok (.aload_n 0, 1) := by decide +kernel
theorem dX6_queuedStreet_25 : decode cX6_queuedStreet 25 = .ok (.getfield 21, 3) := by decide +kernel
theorem dX6_queuedStreet_28 : decode cX6_queuedStreet 28 = .ok (.getfield 218, 3) := by decide +kernel
theorem dX6_queuedStreet_31 : decode cX6_queuedStreet 31 = .ok (.iload_n 1, 1) := by decide +kernel
theorem dX6_queuedStreet_32 : decode cX6_queuedStreet 32 = .ok (.iload_n 2, 1) := by decide +kernel
theorem dX6_queuedStreet_33 : decode cX6_queuedStreet 33 = .ok (.invokevirtual 240, 3) := by decide +kernel
theorem dX6_queuedStreet_36 : decode cX6_queuedStreet 36 = .ok (.istore_n 3, 1) := by decide +kernel
theorem dX6_queuedStreet_37 : decode cX6_queuedStreet 37 = .ok (.iload_n 3, 1) := by decide +kernel
theorem dX6_queuedStreet_38 : decode cX6_queuedStreet 38 = .ok (.ifCond .ge 13, 3) := by decide +kernel
theorem dX6_queuedStreet_41 : decode cX6_queuedStreet 41 = .ok (.new 110, 3) := by decide +kernel
theorem dX6_queuedStreet_44 : decode cX6_queuedStreet 44 = .ok (.dup, 1) := by decide +kernel
theorem dX6_queuedStreet_45 : decode cX6_queuedStreet 45 = .ok (.ldc 243, 2) := by decide +kernel
theorem dX6_queuedStreet_47 : decode cX6_queuedStreet 47 = .ok (.invokespecial 114, 3) := by decide +kernel
theorem dX6_queuedStreet_50 : decode cX6_queuedStreet 50 = .ok (.athrow, 1) := by decide +kernel
theorem dX6_queuedStreet_51 : decode cX6_queuedStreet 51 = .ok (.iload_n 3, 1) := by decide +kernel
theorem dX6_queuedStreet_52 : decode cX6_queuedStreet 52 = .ok (.ireturn, 1) := by decide +kernel
set_option maxRecDepth 20000 in
theorem ggX6_orderMinutes_X2_has : GoodIn wsX6_orderMinutes wsX2_has := goodIn_r _ [13, 14, 89, 90, 91, 92, 93, 94] (by decide +kernel) (by decide +kernel)
set_option maxRecDepth 20000 in
theorem gX6_orderMinutes_X2_has : GoodIn wsX6_orderMinutes (wsV RX6 225 RX2 yX2_has wsX2_has) := goodIn_app (goodIn_of _ (by decide +kernel)) ggX6_orderMinutes_X2_has
set_option maxRecDepth 20000 in
theorem ggX6_orderMinutes_X4_has : GoodIn wsX6_orderMinutes wsX4_has := goodIn_r _ [19, 20, 95, 96, 97, 98, 99, 100, 101, 102, 103] (by decide +kernel) (by decide +kernel)
set_option maxRecDepth 20000 in
theorem gX6_orderMinutes_X4_has : GoodIn wsX6_orderMinutes (wsV RX6 158 RX4 yX4_has wsX4_has) := goodIn_app (goodIn_of _ (by decide +kernel)) ggX6_orderMinutes_X4_has
set_option maxRecDepth 20000 in
theorem ggX6_orderMinutes_X5_minutesFor : GoodIn wsX6_orderMinutes wsX5_minutesFor := goodIn_ca (goodIn_r _ [25, 26, 27, 28, 29, 30, 31, 32, 33, 34, 35, 36, 37, 38, 10, 11, 12, 13, 14, 39, 16, 17, 18, 19, 20, 40, 41, 42, 43, 44, 45, 46, 47, 48, 49, 50, 51, 52, 53, 54, 55, 56, 57, 58, 59, 60, 61, 62, 63, 64, 65, 66, 67, 78, 79, 80, 81, 82, 83, 84, 85, 86, 87, 88, 89, 90, 91, 92, 93, 94, 95, 96, 97, 98, 99, 100, 101, 102, 103, 104, 105, 106] (by decide +kernel) (by decide +kernel)) (goodIn_sub (fun _ h => List.mem_cons_of_mem _ (List.mem_append_right _ h)) (by decide +kernel))
set_option maxRecDepth 20000 in
theorem gX6_orderMinutes_X5_minutesFor : GoodIn wsX6_orderMinutes (wsV RX6 245 RX5 yX5_minutesFor wsX5_minutesFor) := goodIn_app (goodIn_of _ (by decide +kernel)) ggX6_orderMinutes_X5_minutesFor
theorem dX6_orderMinutes_0 : decode cX6_orderMinutes 0 = .ok (.aload_n 0, 1) := by decide +kernel
theorem dX6_orderMinutes_1 : decode cX6_orderMinutes 1 = .ok (.getfield 21, 3) := by decide +kernel
theorem dX6_orderMinutes_4 : decode cX6_orderMinutes 4 = .ok (.getfield 218, 3) := by decide +kernel
theorem dX6_orderMinutes_7 : decode cX6_orderMinutes 7 = .ok (.iload_n 1, 1) := by decide +kernel
theorem dX6_orderMinutes_8 : decode cX6_orderMinutes 8 = .ok (.invokevirtual 225, 3) := by decide +kernel
theorem dX6_orderMinutes_11 : decode cX6_orderMinutes 11 = .ok (.ifCond .eq 17, 3) := by decide +kernel
theorem dX6_orderMinutes_14 : decode cX6_orderMinutes 14 = .ok (.aload_n 0, 1) := by decide +kernel
theorem dX6_orderMinutes_15 : decode cX6_orderMinutes 15 = .ok (.getfield 21, 3) := by decide +kernel
theorem dX6_orderMinutes_18 : decode cX6_orderMinutes 18 = .ok (.getfield 149, 3) := by decide +kernel
theorem dX6_orderMinutes_21 : decode cX6_orderMinutes 21 = .ok (.iload_n 2, 1) := by decide +kernel
theorem dX6_orderMinutes_22 : decode cX6_orderMinutes 22 = .ok (.invokevirtual 158, 3) := by decide +kernel
theorem dX6_orderMinutes_25 : decode cX6_orderMinutes 25 = .ok (.ifCond .ne 13, 3) := by decide +kernel
theorem dX6_orderMinutes_28 : decode cX6_orderMinutes 28 = .ok (.new 71, 3) := by decide +kernel
theorem dX6_orderMinutes_31 : decode cX6_orderMinutes 31 = .ok (.dup, 1) := by decide +kernel
theorem dX6_orderMinutes_32 : decode cX6_orderMinutes 32 = .ok (.ldc 101, 2) := by decide +kernel
theorem dX6_orderMinutes_34 : decode cX6_orderMinutes 34 = .ok (.invokespecial 75, 3) := by decide +kernel
theorem dX6_orderMinutes_37 : decode cX6_orderMinutes 37 = .ok (.athrow, 1) := by decide +kernel
theorem dX6_orderMinutes_38 : decode cX6_orderMinutes 38 = .ok (.aload_n 0, 1) := by decide +kernel
theorem dX6_orderMinutes_39 : decode cX6_orderMinutes 39 = .ok (.getfield 21, 3) := by decide +kernel
theorem dX6_orderMinutes_42 : decode cX6_orderMinutes 42 = .ok (.iload_n 1, 1) := by decide +kernel
theorem dX6_orderMinutes_43 : decode cX6_orderMinutes 43 = .ok (.iload_n 2, 1) := by decide +kernel
theorem dX6_orderMinutes_44 : decode cX6_orderMinutes 44 = .ok (.invokevirtual 245, 3) := by decide +kernel
theorem dX6_orderMinutes_47 : decode cX6_orderMinutes 47 = .ok (.istore_n 3, 1) := by decide +kernel
theorem dX6_orderMinutes_48 : decode cX6_orderMinutes 48 = .ok (.iload_n 3, 1) := by decide +kernel
theorem dX6_orderMinutes_49 : decode cX6_orderMinutes 49 = .ok (.ldc 203, 2) := by decide +kernel
theorem dX6_orderMinutes_51 : decode cX6_orderMinutes 51 = .ok (.if_icmp .lt 13, 3) := by decide +kernel
theorem dX6_orderMinutes_54 : decode cX6_orderMinutes 54 = .ok (.new 110, 3) := by decide +kernel
theorem dX6_orderMinutes_57 : decode cX6_orderMinutes 57 = .ok (.dup, 1) := by decide +kernel
theorem dX6_orderMinutes_58 : decode cX6_orderMinutes 58 = .ok (.ldc 248, 2) := by decide +kernel
theorem dX6_orderMinutes_60 : decode cX6_orderMinutes 60 = .ok (.invokespecial 114, 3) := by decide +kernel
theorem dX6_orderMinutes_63 : decode cX6_orderMinutes 63 = .ok (.athrow, 1) := by decide +kernel
theorem dX6_orderMinutes_64 : decode cX6_orderMinutes 64 = .ok (.iload_n 3, 1) := by decide +kernel
theorem dX6_orderMinutes_65 : decode cX6_orderMinutes 65 = .ok (.ireturn, 1) := by decide +kernel
set_option maxRecDepth 20000 in
theorem ggX6_minutesUntilCleared_X4_has : GoodIn wsX6_minutesUntilCleared wsX4_has := goodIn_r _ [11, 12, 196, 197, 198, 199, 200, 201, 202, 203, 204] (by decide +kernel) (by decide +kernel)
set_option maxRecDepth 20000 in
theorem gX6_minutesUntilCleared_X4_has : GoodIn wsX6_minutesUntilCleared (wsV RX6 158 RX4 yX4_has wsX4_has) := goodIn_app (goodIn_of _ (by decide +kernel)) ggX6_minutesUntilCleared_X4_has
set_option maxRecDepth 20000 in
theorem ggX6_minutesUntilCleared_X6_foretellClearing : GoodIn wsX6_minutesUntilCleared wsX6_foretellClearing := goodIn_ca (goodIn_r _ [17, 18, 5, 6, 19, 20, 21, 22, 23, 24, 25, 26, 27, 28, 29, 30, 31, 32, 33, 34, 35, 36, 10, 37, 38, 39, 40, 41, 42, 43, 44, 45, 46, 47, 48, 49, 12, 50, 51, 52, 53, 54, 55, 56, 57, 58, 59, 60, 61, 62, 63, 64, 65, 66, 8, 9, 11, 67, 68, 69, 70, 71, 72, 73, 74, 75, 76, 77, 78, 79, 80, 81, 82, 83, 84, 85, 86, 87, 88, 89, 90, 91, 92, 93, 94, 95, 96, 97, 98, 99, 100, 101, 102, 103, 104, 105, 106, 107, 108, 109, 110, 111, 112, 113, 114, 115, 116, 117, 118, 119, 120, 121, 122, 123, 16, 124, 125, 126, 127, 128, 129, 130, 131, 132, 133, 134, 135, 136, 137, 138, 139, 140, 141, 142, 143, 144, 145, 146, 147, 148, 149, 150, 151, 152, 153, 154, 155, 156, 157, 158, 159, 160, 161, 162, 163, 164, 165, 166, 167, 168, 169, 170, 171, 172, 173, 174, 175, 176, 177, 178, 179, 180, 181, 182, 183, 184, 185, 186, 187, 188, 189, 190, 191, 192, 193, 194, 195, 196, 197, 198, 199, 200, 201, 202, 203, 204, 205, 206, 207, 208, 209, 210, 211, 212, 213] (by decide +kernel) (by decide +kernel)) (goodIn_sub (fun _ h => List.mem_cons_of_mem _ (List.mem_append_right _ h)) (by decide +kernel))
set_option maxRecDepth 20000 in
theorem gX6_minutesUntilCleared_X6_foretellClearing : GoodIn wsX6_minutesUntilCleared (wsV RX6 250 RX6 yX6_foretellClearing wsX6_foretellClearing) := goodIn_app (goodIn_of _ (by decide +kernel)) ggX6_minutesUntilCleared_X6_foretellClearing
theorem dX6_minutesUntilCleared_0 : decode cX6_minutesUntilCleared 0 = .ok (.aload_n 0, 1) := by decide +kernel
theorem dX6_minutesUntilCleared_1 : decode cX6_minutesUntilCleared 1 = .ok (.getfield 21, 3) := by decide +kernel
theorem dX6_minutesUntilCleared_4 : decode cX6_minutesUntilCleared 4 = .ok (.getfield 149, 3) := by decide +kernel
theorem dX6_minutesUntilCleared_7 : decode cX6_minutesUntilCleared 7 = .ok (.iload_n 1, 1) := by decide +kernel
theorem dX6_minutesUntilCleared_8 : decode cX6_minutesUntilCleared 8 = .ok (.invokevirtual 158, 3) := by decide +kernel
theorem dX6_minutesUntilCleared_11 : decode cX6_minutesUntilCleared 11 = .ok (.ifCond .ne 13, 3) := by decide +kernel
theorem dX6_minutesUntilCleared_14 : decode cX6_minutesUntilCleared 14 = .ok (.new 71, 3) := by decide +kernel
theorem dX6_minutesUntilCleared_17 : decode cX6_minutesUntilCleared 17 = .ok (.dup, 1) := by decide +kernel
theorem dX6_minutesUntilCleared_18 : decode cX6_minutesUntilCleared 18 = .ok (.ldc 118, 2) := by decide +kernel
theorem dX6_minutesUntilCleared_20 : decode cX6_minutesUntilCleared 20 = .ok (.invokespecial 75, 3) := by decide +kernel
theorem dX6_minutesUntilCleared_23 : decode cX6_minutesUntilCleared 23 = .ok (.athrow, 1) := by decide +kernel
theorem dX6_minutesUntilCleared_24 : decode cX6_minutesUntilCleared 24 = .ok (.aload_n 0, 1) := by decide +kernel
theorem dX6_minutesUntilCleared_25 : decode cX6_minutesUntilCleared 25 = .ok (.iload_n 1, 1) := by decide +kernel
theorem dX6_minutesUntilCleared_26 : decode cX6_minutesUntilCleared 26 = .ok (.invokevirtual 250, 3) := by decide +kernel
theorem dX6_minutesUntilCleared_29 : decode cX6_minutesUntilCleared 29 = .ok (.istore_n 2, 1) := by decide +kernel
theorem dX6_minutesUntilCleared_30 : decode cX6_minutesUntilCleared 30 = .ok (.iload_n 2, 1) := by decide +kernel
theorem dX6_minutesUntilCleared_31 : decode cX6_minutesUntilCleared 31 = .ok (.ifCond .ge 13, 3) := by decide +kernel
theorem dX6_minutesUntilCleared_34 : decode cX6_minutesUntilCleared 34 = .ok (.new 110, 3) := by decide +kernel
theorem dX6_minutesUntilCleared_37 : decode cX6_minutesUntilCleared 37 = .ok (.dup, 1) := by decide +kernel
theorem dX6_minutesUntilCleared_38 : decode cX6_minutesUntilCleared 38 = .ok (.ldc 253, 2) := by decide +kernel
theorem dX6_minutesUntilCleared_40 : decode cX6_minutesUntilCleared 40 = .ok (.invokespecial 114, 3) := by decide +kernel
theorem dX6_minutesUntilCleared_43 : decode cX6_minutesUntilCleared 43 = .ok (.athrow, 1) := by decide +kernel
theorem dX6_minutesUntilCleared_44 : decode cX6_minutesUntilCleared 44 = .ok (.iload_n 2, 1) := by decide +kernel
theorem dX6_minutesUntilCleared_45 : decode cX6_minutesUntilCleared 45 = .ok (.ireturn, 1) := by decide +kernel
set_option maxRecDepth 20000 in
theorem ggX6_foretellClearing_X5_copyFrom : GoodIn wsX6_foretellClearing wsX5_copyFrom := goodIn_r _ [8, 9, 10, 11, 12, 13, 14, 15, 16, 17, 18, 19, 20, 21, 22, 23, 24, 25, 26, 27, 28, 29, 30, 31, 32, 33, 34, 35, 36, 37, 38, 39, 40, 41, 42, 43, 44, 45, 46, 47, 48, 176, 177, 178, 179, 180, 181, 182, 183, 184, 185, 186, 187, 188, 189, 190, 191, 192, 193, 194, 195, 196, 197, 198, 199, 200, 201] (by decide +kernel) (by decide +kernel)
set_option maxRecDepth 20000 in
theorem gX6_foretellClearing_X5_copyFrom : GoodIn wsX6_foretellClearing (wsV RX6 255 RX5 yX5_copyFrom wsX5_copyFrom) := goodIn_app (goodIn_of _ (by decide +kernel)) ggX6_foretellClearing_X5_copyFrom
set_option maxRecDepth 20000 in
theorem ggX6_foretellClearing_X4_timesCleared : GoodIn wsX6_foretellClearing wsX4_timesCleared := goodIn_ca (goodIn_r _ [52, 35, 53, 54, 55, 22, 56, 36, 187, 188, 189, 190, 191, 192, 193, 194, 195] (by decide +kernel) (by decide +kernel)) (goodIn_sub (fun _ h => List.mem_cons_of_mem _ (List.mem_append_right _ h)) (by decide +kernel))
set_option maxRecDepth 20000 in
theorem gX6_foretellClearing_X4_timesCleared : GoodIn wsX6_foretellClearing (wsV RX6 258 RX4 yX4_timesCleared wsX4_timesCleared) := goodIn_app (goodIn_of _ (by decide +kernel)) ggX6_foretellClearing_X4_timesCleared
set_option maxRecDepth 20000 in
theorem ggX6_foretellClearing_X5_passMinutes : GoodIn wsX6_foretellClearing wsX5_passMinutes := goodIn_ca (goodIn_r _ [60, 15, 11, 10, 61, 62, 63, 64, 40, 65, 45, 46, 66, 67, 68, 69, 48, 70, 71, 72, 7, 73, 74, 9, 17, 75, 76, 77, 78, 79, 80, 81, 47, 82, 83, 84, 85, 86, 87, 88, 89, 90, 91, 92, 93, 94, 95, 96, 97, 54, 55, 22, 56, 36, 98, 99, 100, 101, 102, 103, 104, 105, 106, 107, 108, 109, 110, 111, 112, 113, 114, 115, 116, 117, 118, 119, 24, 29, 120, 121, 122, 123, 124, 125, 126, 127, 44, 42, 128, 129, 130, 131, 132, 133, 134, 135, 16, 136, 137, 138, 139, 140, 141, 13, 14, 18, 142, 143, 144, 145, 32, 146, 147, 148, 149, 150, 33, 151, 152, 153, 154, 155, 156, 157, 53, 158, 159, 160, 161, 34, 162, 163, 164, 165, 30, 176, 177, 178, 179, 180, 181, 182, 183, 184, 185, 186, 196, 197, 198, 199, 200, 201, 187, 188, 189, 190, 191, 192, 193, 194, 195, 202, 203, 204] (by decide +kernel) (by decide +kernel)) (goodIn_sub (fun _ h => List.mem_cons_of_mem _ (List.mem_append_right _ h)) (by decide +kernel))
set_option maxRecDepth 20000 in
theorem gX6_foretellClearing_X5_passMinutes : GoodIn wsX6_foretellClearing (wsV RX6 144 RX5 yX5_passMinutes wsX5_passMinutes) := goodIn_app (goodIn_of _ (by decide +kernel)) ggX6_foretellClearing_X5_passMinutes
theorem dX6_foretellClearing_0 : decode cX6_foretellClearing 0 = .ok (.aload_n 0, 1) := by decide +kernel
theorem dX6_foretellClearing_1 : decode cX6_foretellClearing 1 = .ok (.getfield 25, 3) := by decide +kernel
theorem dX6_foretellClearing_4 : decode cX6_foretellClearing 4 = .ok (.aload_n 0, 1) := by decide +kernel
theorem dX6_foretellClearing_5 : decode cX6_foretellClearing 5 = .ok (.getfield 21, 3) := by decide +kernel
theorem dX6_foretellClearing_8 : decode cX6_foretellClearing 8 = .ok (.invokevirtual 255, 3) := by decide +kernel
theorem dX6_foretellClearing_11 : decode cX6_foretellClearing 11 = .ok (.aload_n 0, 1) := by decide +kernel
theorem dX6_foretellClearing_12 : decode cX6_foretellClearing 12 = .ok (.getfield 25, 3) := by decide +kernel
theorem dX6_foretellClearing_15 : decode cX6_foretellClearing 15 = .ok (.getfield 149, 3) := by decide +kernel
theorem dX6_foretellClearing_18 : decode cX6_foretellClearing 18 = .ok (.iload_n 1, 1) := by decide +kernel
theorem dX6_foretellClearing_19 : decode cX6_foretellClearing 19 = .ok (.invokevirtual 258, 3) := by decide +kernel
theorem dX6_foretellClearing_22 : decode cX6_foretellClearing 22 = .ok (.istore_n 2, 1) := by decide +kernel
theorem dX6_foretellClearing_23 : decode cX6_foretellClearing 23 = .ok (.iconst 1, 1) := by decide +kernel
theorem dX6_foretellClearing_24 : decode cX6_foretellClearing 24 = .ok (.istore_n 3, 1) := by decide +kernel
theorem dX6_foretellClearing_25 : decode cX6_foretellClearing 25 = .ok (.iload_n 3, 1) := by decide +kernel
theorem dX6_foretellClearing_26 : decode cX6_foretellClearing 26 = .ok (.sipush 600, 3) := by decide +kernel
theorem dX6_foretellClearing_29 : decode cX6_foretellClearing 29 = .ok (.if_icmp .gt 35, 3) := by decide +kernel
theorem dX6_foretellClearing_32 : decode cX6_foretellClearing 32 = .ok (.aload_n 0, 1) := by decide +kernel
theorem dX6_foretellClearing_33 : decode cX6_foretellClearing 33 = .ok (.getfield 25, 3) := by decide +kernel
theorem dX6_foretellClearing_36 : decode cX6_foretellClearing 36 = .ok (.iconst 1, 1) := by decide +kernel
theorem dX6_foretellClearing_37 : decode cX6_foretellClearing 37 = .ok (.invokevirtual 144, 3) := by decide +kernel
theorem dX6_foretellClearing_40 : decode cX6_foretellClearing 40 = .ok (.pop, 1) := by decide +kernel
theorem dX6_foretellClearing_41 : decode cX6_foretellClearing 41 = .ok (.aload_n 0, 1) := by decide +kernel
theorem dX6_foretellClearing_42 : decode cX6_foretellClearing 42 = .ok (.getfield 25, 3) := by decide +kernel
theorem dX6_foretellClearing_45 : decode cX6_foretellClearing 45 = .ok (.getfield 149, 3) := by decide +kernel
theorem dX6_foretellClearing_48 : decode cX6_foretellClearing 48 = .ok (.iload_n 1, 1) := by decide +kernel
theorem dX6_foretellClearing_49 : decode cX6_foretellClearing 49 = .ok (.invokevirtual 258, 3) := by decide +kernel
theorem dX6_foretellClearing_52 : decode cX6_foretellClearing 52 = .ok (.iload_n 2, 1) := by decide +kernel
theorem dX6_foretellClearing_53 : decode cX6_foretellClearing 53 = .ok (.if_icmp .le 5, 3) := by decide +kernel
theorem dX6_foretellClearing_56 : decode cX6_foretellClearing 56 = .ok (.iload_n 3, 1) := by decide +kernel
theorem dX6_foretellClearing_57 : decode cX6_foretellClearing 57 = .ok (.ireturn, 1) := by decide +kernel
theorem dX6_foretellClearing_58 : decode cX6_foretellClearing 58 = .ok (.iinc 3 1, 3) := by decide +kernel
theorem dX6_foretellClearing_61 : decode cX6_foretellClearing 61 = .ok (.goto (-36), 3) := by decide +kernel
theorem dX6_foretellClearing_64 : decode cX6_foretellClearing 64 = .ok (.iconst (-1), 1) := by decide +kernel
theorem dX6_foretellClearing_65 : decode cX6_foretellClearing 65 = .ok (.ireturn, 1) := by decide +kernel
set_option maxRecDepth 20000 in
theorem ggX6_depthAfter_X4_has : GoodIn wsX6_depthAfter wsX4_has := goodIn_r _ [13, 14, 189, 190, 191, 192, 193, 194, 195, 196, 197] (by decide +kernel) (by decide +kernel)
set_option maxRecDepth 20000 in
theorem gX6_depthAfter_X4_has : GoodIn wsX6_depthAfter (wsV RX6 158 RX4 yX4_has wsX4_has) := goodIn_app (goodIn_of _ (by decide +kernel)) ggX6_depthAfter_X4_has
set_option maxRecDepth 20000 in
theorem ggX6_depthAfter_X5_copyFrom : GoodIn wsX6_depthAfter wsX5_copyFrom := goodIn_r _ [19, 20, 21, 22, 23, 24, 25, 26, 27, 28, 29, 30, 31, 32, 12, 33, 34, 35, 36, 37, 38, 39, 40, 41, 42, 43, 44, 45, 14, 46, 47, 48, 49, 50, 51, 52, 53, 54, 55, 56, 57, 178, 179, 180, 181, 182, 183, 184, 185, 186, 187, 188, 189, 190, 191, 192, 193, 194, 195, 196, 197, 198, 199, 200, 201, 202, 203] (by decide +kernel) (by decide +kernel)
set_option maxRecDepth 20000 in
theorem gX6_depthAfter_X5_copyFrom : GoodIn wsX6_depthAfter (wsV RX6 255 RX5 yX5_copyFrom wsX5_copyFrom) := goodIn_app (goodIn_of _ (by decide +kernel)) ggX6_depthAfter_X5_copyFrom
set_option maxRecDepth 20000 in
theorem ggX6_depthAfter_X5_passMinutes : GoodIn wsX6_depthAfter wsX5_passMinutes := goodIn_ca (goodIn_r _ [61, 26, 22, 21, 62, 63, 64, 65, 49, 66, 54, 55, 67, 68, 69, 70, 57, 71, 72, 73, 18, 74, 75, 20, 28, 76, 77, 78, 79, 80, 81, 82, 56, 83, 84, 85, 86, 87, 88, 89, 90, 91, 92, 93, 94, 95, 96, 97, 98, 10, 11, 12, 13, 14, 99, 100, 101, 102, 103, 104, 105, 106, 107, 108, 109, 110, 111, 112, 113, 114, 115, 116, 117, 118, 119, 120, 34, 39, 121, 122, 123, 124, 125, 126, 127, 128, 53, 51, 129, 130, 131, 132, 133, 134, 135, 136, 27, 137, 138, 139, 140, 141, 142, 24, 25, 29, 143, 144, 145, 146, 42, 147, 148, 149, 150, 151, 43, 152, 153, 154, 155, 156, 157, 158, 159, 160, 161, 162, 163, 44, 164, 165, 166, 167, 40, 178, 179, 180, 181, 182, 183, 184, 185, 186, 187, 188, 198, 199, 200, 201, 202, 203, 189, 190, 191, 192, 193, 194, 195, 196, 197, 204, 205, 206] (by decide +kernel) (by decide +kernel)) (goodIn_sub (fun _ h => List.mem_cons_of_mem _ (List.mem_append_right _ h)) (by decide +kernel))
set_option maxRecDepth 20000 in
theorem gX6_depthAfter_X5_passMinutes : GoodIn wsX6_depthAfter (wsV RX6 144 RX5 yX5_passMinutes wsX5_passMinutes) := goodIn_app (goodIn_of _ (by decide +kernel)) ggX6_depthAfter_X5_passMinutes
theorem dX6_depthAfter_0 : decode cX6_depthAfter 0 = .ok (.aload_n 0, 1) := by decide +kernel
theorem dX6_depthAfter_1 : decode cX6_depthAfter 1 = .ok (.getfield 21, 3) := by decide +kernel
theorem dX6_depthAfter_4 : decode cX6_depthAfter 4 = .ok (.getfield 149, 3) := by decide +kernel
theorem dX6_depthAfter_7 : decode cX6_depthAfter 7 = .ok (.iload_n 1, 1) := by decide +kernel
theorem dX6_depthAfter_8 : decode cX6_depthAfter 8 = .ok (.invokevirtual 158, 3) := by decide +kernel
theorem dX6_depthAfter_11 : decode cX6_depthAfter 11 = .ok (.ifCond .ne 13, 3) := by decide +kernel
theorem dX6_depthAfter_14 : decode cX6_depthAfter 14 = .ok (.new 71, 3) := by decide +kernel
theorem dX6_depthAfter_17 : decode cX6_depthAfter 17 = .ok (.dup, 1) := by decide +kernel
theorem dX6_depthAfter_18 : decode cX6_depthAfter 18 = .ok (.ldc 118, 2) := by decide +kernel
theorem dX6_depthAfter_20 : decode cX6_depthAfter 20 = .ok (.invokespecial 75, 3) := by decide +kernel
theorem dX6_depthAfter_23 : decode cX6_depthAfter 23 = .ok (.athrow, 1) := by decide +kernel
theorem dX6_depthAfter_24 : decode cX6_depthAfter 24 = .ok (.iload_n 2, 1) := by decide +kernel
theorem dX6_depthAfter_25 : decode cX6_depthAfter 25 = .ok (.ifCond .lt 10, 3) := by decide +kernel
theorem dX6_depthAfter_28 : decode cX6_depthAfter 28 = .ok (.iload_n 2, 1) := by decide +kernel
theorem dX6_depthAfter_29 : decode cX6_depthAfter 29 = .ok (.sipush 600, 3) := by decide +kernel
theorem dX6_depthAfter_32 : decode cX6_depthAfter 32 = .ok (.if_icmp .le 14, 3) := by decide +kernel
theorem dX6_depthAfter_35 : decode cX6_depthAfter 35 = .ok (.new 78, 3) := by decide +kernel
theorem dX6_depthAfter_38 : decode cX6_depthAfter 38 = .ok (.dup, 1) := by decide +kernel
theorem dX6_depthAfter_39 : decode cX6_depthAfter 39 = .ok (.ldc_w 261, 3) := by decide +kernel
theorem dX6_depthAfter_42 : decode cX6_depthAfter 42 = .ok (.invokespecial 82, 3) := by decide +kernel
theorem dX6_depthAfter_45 : decode cX6_depthAfter 45 = .ok (.athrow, 1) := by decide +kernel
theorem dX6_depthAfter_46 : decode cX6_depthAfter 46 = .ok (.iload_n 2, 1) := by decide +kernel
theorem dX6_depthAfter_47 : decode cX6_depthAfter 47 = .ok (.ifCond .ne 16, 3) := by decide +kernel
theorem dX6_depthAfter_50 : decode cX6_depthAfter 50 = .ok (.aload_n 0, 1) := by decide +kernel
theorem dX6_depthAfter_51 : decode cX6_depthAfter 51 = .ok (.getfield 21, 3) := by decide +kernel
theorem dX6_depthAfter_54 : decode cX6_depthAfter 54 = .ok (.getfield 149, 3) := by decide +kernel
theorem dX6_depthAfter_57 : decode cX6_depthAfter 57 = .ok (.getfield 176, 3) := by decide +kernel
theorem dX6_depthAfter_60 : decode cX6_depthAfter 60 = .ok (.iload_n 1, 1) := by decide +kernel
theorem dX6_depthAfter_61 : decode cX6_depthAfter 61 = .ok (.iaload, 1) := by decide +kernel
theorem dX6_depthAfter_62 : decode cX6_depthAfter 62 = .ok (.ireturn, 1) := by decide +kernel
theorem dX6_depthAfter_63 : decode cX6_depthAfter 63 = .ok (.aload_n 0, 1) := by decide +kernel
theorem dX6_depthAfter_64 : decode cX6_depthAfter 64 = .ok (.getfield 25, 3) := by decide +kernel
theorem dX6_depthAfter_67 : decode cX6_depthAfter 67 = .ok (.aload_n 0, 1) := by decide +kernel
theorem dX6_depthAfter_68 : decode cX6_depthAfter 68 = .ok (.getfield 21, 3) := by decide +kernel
theorem dX6_depthAfter_71 : decode cX6_depthAfter 71 = .ok (.invokevirtual 255, 3) := by decide +kernel
theorem dX6_depthAfter_74 : decode cX6_depthAfter 74 = .ok (.aload_n 0, 1) := by decide +kernel
theorem dX6_depthAfter_75 : decode cX6_depthAfter 75 = .ok (.getfield 25, 3) := by decide +kernel
theorem dX6_depthAfter_78 : decode cX6_depthAfter 78 = .ok (.iload_n 2, 1) := by decide +kernel
theorem dX6_depthAfter_79 : decode cX6_depthAfter 79 = .ok (.invokevirtual 144, 3) := by decide +kernel
theorem dX6_depthAfter_82 : decode cX6_depthAfter 82 = .ok (.pop, 1) := by decide +kernel
theorem dX6_depthAfter_83 : decode cX6_depthAfter 83 = .ok (.aload_n 0, 1) := by decide +kernel
theorem dX6_depthAfter_84 : decode cX6_depthAfter 84 = .ok (.getfield 25, 3) := by decide +kernel
theorem dX6_depthAfter_87 : decode cX6_depthAfter 87 = .ok (.getfield 149, 3) := by decide +kernel
theorem dX6_depthAfter_90 : decode cX6_depthAfter 90 = .ok (.getfield 176, 3) := by decide +kernel
theorem dX6_depthAfter_93 : decode cX6_depthAfter 93 = .ok (.iload_n 1, 1) := by decide +kernel
theorem dX6_depthAfter_94 : decode cX6_depthAfter 94 = .ok (.iaload, 1) := by decide +kernel
theorem dX6_depthAfter_95 : decode cX6_depthAfter 95 = .ok (.ireturn, 1) := by decide +kernel
theorem dX6_time_0 : decode cX6_time 0 = .ok (.aload_n 0, 1) := by decide +kernel
theorem dX6_time_1 : decode cX6_time 1 = .ok (.getfield 21, 3) := by decide +kernel
theorem dX6_time_4 : decode cX6_time 4 = .ok (.getfield 182, 3) := by decide +kernel
theorem dX6_time_7 : decode cX6_time 7 = .ok (.ireturn, 1) := by decide +kernel
theorem dX6_saltStore_0 : decode cX6_saltStore 0 = .ok (.aload_n 0, 1) := by decide +kernel
theorem dX6_saltStore_1 : decode cX6_saltStore 1 = .ok (.getfield 21, 3) := by decide +kernel
theorem dX6_saltStore_4 : decode cX6_saltStore 4 = .ok (.getfield 263, 3) := by decide +kernel
theorem dX6_saltStore_7 : decode cX6_saltStore 7 = .ok (.ireturn, 1) := by decide +kernel
theorem dX6_snowfall_0 : decode cX6_snowfall 0 = .ok (.aload_n 0, 1) := by decide +kernel
theorem dX6_snowfall_1 : decode cX6_snowfall 1 = .ok (.getfield 21, 3) := by decide +kernel
theorem dX6_snowfall_4 : decode cX6_snowfall 4 = .ok (.getfield 266, 3) := by decide +kernel
theorem dX6_snowfall_7 : decode cX6_snowfall 7 = .ok (.ireturn, 1) := by decide +kernel
theorem dX6_wind_0 : decode cX6_wind 0 = .ok (.aload_n 0, 1) := by decide +kernel
theorem dX6_wind_1 : decode cX6_wind 1 = .ok (.getfield 21, 3) := by decide +kernel
theorem dX6_wind_4 : decode cX6_wind 4 = .ok (.getfield 269, 3) := by decide +kernel
theorem dX6_wind_7 : decode cX6_wind 7 = .ok (.ireturn, 1) := by decide +kernel
theorem dX6_clearedTotal_0 : decode cX6_clearedTotal 0 = .ok (.aload_n 0, 1) := by decide +kernel
theorem dX6_clearedTotal_1 : decode cX6_clearedTotal 1 = .ok (.getfield 21, 3) := by decide +kernel
theorem dX6_clearedTotal_4 : decode cX6_clearedTotal 4 = .ok (.getfield 272, 3) := by decide +kernel
theorem dX6_clearedTotal_7 : decode cX6_clearedTotal 7 = .ok (.ireturn, 1) := by decide +kernel
theorem dX6_ploughedTotal_0 : decode cX6_ploughedTotal 0 = .ok (.aload_n 0, 1) := by decide +kernel
theorem dX6_ploughedTotal_1 : decode cX6_ploughedTotal 1 = .ok (.getfield 21, 3) := by decide +kernel
theorem dX6_ploughedTotal_4 : decode cX6_ploughedTotal 4 = .ok (.getfield 275, 3) := by decide +kernel
theorem dX6_ploughedTotal_7 : decode cX6_ploughedTotal 7 = .ok (.ireturn, 1) := by decide +kernel
theorem dX6_failedOrders_0 : decode cX6_failedOrders 0 = .ok (.aload_n 0, 1) := by decide +kernel
theorem dX6_failedOrders_1 : decode cX6_failedOrders 1 = .ok (.getfield 21, 3) := by decide +kernel
theorem dX6_failedOrders_4 : decode cX6_failedOrders 4 = .ok (.getfield 278, 3) := by decide +kernel
theorem dX6_failedOrders_7 : decode cX6_failedOrders 7 = .ok (.ireturn, 1) := by decide +kernel
theorem dX6_complaintTotal_0 : decode cX6_complaintTotal 0 = .ok (.aload_n 0, 1) := by decide +kernel
theorem dX6_complaintTotal_1 : decode cX6_complaintTotal 1 = .ok (.getfield 21, 3) := by decide +kernel
theorem dX6_complaintTotal_4 : decode cX6_complaintTotal 4 = .ok (.getfield 281, 3) := by decide +kernel
theorem dX6_complaintTotal_7 : decode cX6_complaintTotal 7 = .ok (.ireturn, 1) := by decide +kernel
set_option maxRecDepth 20000 in
theorem ggX6_isConsistent_X6_distancesAgree : GoodIn wsX6_isConsistent wsX6_distancesAgree := goodIn_ca (goodIn_r _ [8, 9, 1, 2, 10, 11, 12, 13, 14, 15, 16, 17, 18, 19, 20, 21, 22, 23, 24, 25, 7, 26, 27, 28, 29, 30, 31, 32, 33, 34, 35, 36, 37, 38, 39, 40, 41, 42, 43, 44, 45, 46, 47, 48, 49, 50, 51, 52, 53, 54, 55, 56, 57, 58, 59, 60, 72, 73, 74, 75, 76, 77, 78, 79, 80, 81, 82, 83, 84, 85, 86, 87, 88, 89, 90, 91, 92, 93, 94, 95, 96, 97, 98, 99, 100, 101, 102, 103, 104] (by decide +kernel) (by decide +kernel)) (goodIn_sub (fun _ h => List.mem_cons_of_mem _ (List.mem_append_right _ h)) (by decide +kernel))
set_option maxRecDepth 20000 in
theorem gX6_isConsistent_X6_distancesAgree : GoodIn wsX6_isConsistent (wsV RX6 295 RX6 yX6_distancesAgree wsX6_distancesAgree) := goodIn_app (goodIn_of _ (by decide +kernel)) ggX6_isConsistent_X6_distancesAgree
set_option maxRecDepth 20000 in
theorem ggX6_isConsistent_X4_complaintSum : GoodIn wsX6_isConsistent wsX4_complaintSum := goodIn_ca (goodIn_r _ [64, 65, 66, 96, 97, 98, 99, 100, 101, 102, 103, 104] (by decide +kernel) (by decide +kernel)) (goodIn_sub (fun _ h => List.mem_cons_of_mem _ (List.mem_append_right _ h)) (by decide +kernel))
set_option maxRecDepth 20000 in
theorem gX6_isConsistent_X4_complaintSum : GoodIn wsX6_isConsistent (wsV RX6 299 RX4 yX4_complaintSum wsX4_complaintSum) := goodIn_app (goodIn_of _ (by decide +kernel)) ggX6_isConsistent_X4_complaintSum
set_option maxRecDepth 20000 in
theorem ggX6_isConsistent_X4_depthsAllowed : GoodIn wsX6_isConsistent wsX4_depthsAllowed := goodIn_ca (goodIn_r _ [70, 65, 71, 96, 97, 98, 99, 100, 101, 102, 103, 104] (by decide +kernel) (by decide +kernel)) (goodIn_sub (fun _ h => List.mem_cons_of_mem _ (List.mem_append_right _ h)) (by decide +kernel))
set_option maxRecDepth 20000 in
theorem gX6_isConsistent_X4_depthsAllowed : GoodIn wsX6_isConsistent (wsV RX6 302 RX4 yX4_depthsAllowed wsX4_depthsAllowed) := goodIn_app (goodIn_of _ (by decide +kernel)) ggX6_isConsistent_X4_depthsAllowed
theorem dX6_isConsistent_0 : decode cX6_isConsistent 0 = .ok (.aload_n 0, 1) := by decide +kernel
theorem dX6_isConsistent_1 : decode cX6_isConsistent 1 = .ok (.invokevirtual 295, 3) := by decide +kernel
theorem dX6_isConsistent_4 : decode cX6_isConsistent 4 = .ok (.ifCond .eq 40, 3) := by decide +kernel
theorem dX6_isConsistent_7 : decode cX6_isConsistent 7 = .ok (.aload_n 0, 1) := by decide +kernel
theorem dX6_isConsistent_8 : decode cX6_isConsistent 8 = .ok (.getfield 21, 3) := by decide +kernel
theorem dX6_isConsistent_11 : decode cX6_isConsistent 11 = .ok (.getfield 149, 3) := by decide +kernel
theorem dX6_isConsistent_14 : decode cX6_isConsistent 14 = .ok (.invokevirtual 299, 3) := by decide +kernel
theorem dX6_isConsistent_17 : decode cX6_isConsistent 17 = .ok (.aload_n 0, 1) := by decide +kernel
theorem dX6_isConsistent_18 : decode cX6_isConsistent 18 = .ok (.getfield 21, 3) := by decide +kernel
theorem dX6_isConsistent_21 : decode cX6_isConsistent 21 = .ok (.getfield 281, 3) := by decide +kernel
theorem dX6_isConsistent_24 : decode cX6_isConsistent 24 = .ok (.if_icmp .ne 20, 3) := by decide +kernel
theorem dX6_isConsistent_27 : decode cX6_isConsistent 27 = .ok (.aload_n 0, 1) := by decide +kernel
theorem dX6_isConsistent_28 : decode cX6_isConsistent 28 = .ok (.getfield 21, 3) := by decide +kernel
theorem dX6_isConsistent_31 : decode cX6_isConsistent 31 = .ok (.getfield 149, 3) := by decide +kernel
theorem dX6_isConsistent_34 : decode cX6_isConsistent 34 = .ok (.invokevirtual 302, 3) := by decide +kernel
theorem dX6_isConsistent_37 : decode cX6_isConsistent 37 = .ok (.ifCond .eq 7, 3) := by decide +kernel
theorem dX6_isConsistent_40 : decode cX6_isConsistent 40 = .ok (.iconst 1, 1) := by decide +kernel
theorem dX6_isConsistent_41 : decode cX6_isConsistent 41 = .ok (.goto 4, 3) := by decide +kernel
theorem dX6_isConsistent_44 : decode cX6_isConsistent 44 = .ok (.iconst 0, 1) := by decide +kernel
theorem dX6_isConsistent_45 : decode cX6_isConsistent 45 = .ok (.ireturn, 1) := by decide +kernel
set_option maxRecDepth 20000 in
theorem ggX6_distancesAgree_X1_improveAll : GoodIn wsX6_distancesAgree wsX1_improveAll := goodIn_ca (goodIn_r _ [8, 9, 10, 11, 12, 13, 14, 15, 16, 17, 7, 18, 19, 20, 21, 22, 23, 24, 25, 26, 27, 28, 29, 77, 78, 79, 80, 81, 82, 83, 84, 85, 86, 87, 88] (by decide +kernel) (by decide +kernel)) (goodIn_sub (fun _ h => List.mem_cons_of_mem _ (List.mem_append_right _ h)) (by decide +kernel))
set_option maxRecDepth 20000 in
theorem gX6_distancesAgree_X1_improveAll : GoodIn wsX6_distancesAgree (wsV RX6 206 RX1 yX1_improveAll wsX1_improveAll) := goodIn_app (goodIn_of _ (by decide +kernel)) ggX6_distancesAgree_X1_improveAll
set_option maxRecDepth 20000 in
theorem ggX6_distancesAgree_X1_measureFrom : GoodIn wsX6_distancesAgree wsX1_measureFrom := goodIn_ca (goodIn_r _ [33, 34, 10, 35, 11, 14, 36, 37, 38, 39, 40, 41, 42, 7, 43, 19, 20, 21, 44, 45, 46, 47, 48, 49, 50, 77, 78, 79, 80, 81, 82, 83, 84, 85, 86, 87, 88] (by decide +kernel) (by decide +kernel)) (goodIn_sub (fun _ h => List.mem_cons_of_mem _ (List.mem_append_right _ h)) (by decide +kernel))
set_option maxRecDepth 20000 in
theorem gX6_distancesAgree_X1_measureFrom : GoodIn wsX6_distancesAgree (wsV RX6 196 RX1 yX1_measureFrom wsX1_measureFrom) := goodIn_app (goodIn_of _ (by decide +kernel)) ggX6_distancesAgree_X1_measureFrom
set_option maxRecDepth 20000 in
theorem ggX6_distancesAgree_X1_reachOf : GoodIn wsX6_distancesAgree wsX1_reachOf := goodIn_ca (goodIn_r _ [54, 34, 10, 19, 20, 21, 77, 78, 79] (by decide +kernel) (by decide +kernel)) (goodIn_sub (fun _ h => List.mem_cons_of_mem _ (List.mem_append_right _ h)) (by decide +kernel))
set_option maxRecDepth 20000 in
theorem gX6_distancesAgree_X1_reachOf : GoodIn wsX6_distancesAgree (wsV RX6 200 RX1 yX1_reachOf wsX1_reachOf) := goodIn_app (goodIn_of _ (by decide +kernel)) ggX6_distancesAgree_X1_reachOf
set_option maxRecDepth 20000 in
theorem ggX6_distancesAgree_X1_between : GoodIn wsX6_distancesAgree wsX1_between := goodIn_ca (goodIn_r _ [29, 9, 10, 19, 20, 21, 77, 78, 79] (by decide +kernel) (by decide +kernel)) (goodIn_sub (fun _ h => List.mem_cons_of_mem _ (List.mem_append_right _ h)) (by decide +kernel))
set_option maxRecDepth 20000 in
theorem gX6_distancesAgree_X1_between : GoodIn wsX6_distancesAgree (wsV RX6 210 RX1 yX1_between wsX1_between) := goodIn_app (goodIn_of _ (by decide +kernel)) ggX6_distancesAgree_X1_between
theorem dX6_distancesAgree_0 : decode cX6_distancesAgree 0 = .ok (.aload_n 0, 1) := by decide +kernel
theorem dX6_distancesAgree_1 : decode cX6_distancesAgree 1 = .ok (.getfield 10, 3) := by decide +kernel
theorem dX6_distancesAgree_4 : decode cX6_distancesAgree 4 = .ok (.aload_n 0, 1) := by decide +kernel
theorem dX6_distancesAgree_5 : decode cX6_distancesAgree 5 = .ok (.getfield 21, 3) := by decide +kernel
theorem dX6_distancesAgree_8 : decode cX6_distancesAgree 8 = .ok (.getfield 149, 3) := by decide +kernel
theorem dX6_distancesAgree_11 : decode cX6_distancesAgree 11 = .ok (.invokevirtual 206, 3) := by decide +kernel
theorem dX6_distancesAgree_14 : decode cX6_distancesAgree 14 = .ok (.iconst 0, 1) := by decide +kernel
theorem dX6_distancesAgree_15 : decode cX6_distancesAgree 15 = .ok (.istore_n 1, 1) := by decide +kernel
theorem dX6_distancesAgree_16 : decode cX6_distancesAgree 16 = .ok (.iload_n 1, 1) := by decide +kernel
theorem dX6_distancesAgree_17 : decode cX6_distancesAgree 17 = .ok (.bipush 8, 2) := by decide +kernel
theorem dX6_distancesAgree_19 : decode cX6_distancesAgree 19 = .ok (.if_icmp .ge 60, 3) := by decide +kernel
theorem dX6_distancesAgree_22 : decode cX6_distancesAgree 22 = .ok (.aload_n 0, 1) := by decide +kernel
theorem dX6_distancesAgree_23 : decode cX6_distancesAgree 23 = .ok (.getfield 10, 3) := by decide +kernel
theorem dX6_distancesAgree_26 : decode cX6_distancesAgree 26 = .ok (.iload_n 1, 1) := by decide +kernel
theorem dX6_distancesAgree_27 : decode cX6_distancesAgree 27 = .ok (.aload_n 0, 1) := by decide +kernel
theorem dX6_distancesAgree_28 : decode cX6_distancesAgree 28 = .ok (.getfield 21, 3) := by decide +kernel
theorem dX6_distancesAgree_31 : decode cX6_distancesAgree 31 = .ok (.getfield 149, 3) := by decide +kernel
theorem dX6_distancesAgree_34 : decode cX6_distancesAgree 34 = .ok (.invokevirtual 196, 3) := by decide +kernel
theorem dX6_distancesAgree_37 : decode cX6_distancesAgree 37 = .ok (.iconst 0, 1) := by decide +kernel
theorem dX6_distancesAgree_38 : decode cX6_distancesAgree 38 = .ok (.istore_n 2, 1) := by decide +kernel
theorem dX6_distancesAgree_39 : decode cX6_distancesAgree 39 = .ok (.iload_n 2, 1) := by decide +kernel
theorem dX6_distancesAgree_40 : decode cX6_distancesAgree 40 = .ok (.bipush 8, 2) := by decide +kernel
theorem dX6_distancesAgree_42 : decode cX6_distancesAgree 42 = .ok (.if_icmp .ge 31, 3) := by decide +kernel
theorem dX6_distancesAgree_45 : decode cX6_distancesAgree 45 = .ok (.aload_n 0, 1) := by decide +kernel
theorem dX6_distancesAgree_46 : decode cX6_distancesAgree 46 = .ok (.getfield 10, 3) := by decide +kernel
theorem dX6_distancesAgree_49 : decode cX6_distancesAgree 49 = .ok (.iload_n 2, 1) := by decide +kernel
theorem dX6_distancesAgree_50 : decode cX6_distancesAgree 50 = .ok (.invokevirtual 200, 3) := by decide +kernel
theorem dX6_distancesAgree_53 : decode cX6_distancesAgree 53 = .ok (.aload_n 0, 1) := by decide +kernel
theorem dX6_distancesAgree_54 : decode cX6_distancesAgree 54 = .ok (.getfield 10, 3) := by decide +kernel
theorem dX6_distancesAgree_57 : decode cX6_distancesAgree 57 = .ok (.iload_n 1, 1) := by decide +kernel
theorem dX6_distancesAgree_58 : decode cX6_distancesAgree 58 = .ok (.iload_n 2, 1) := by decide +kernel
theorem dX6_distancesAgree_59 : decode cX6_distancesAgree 59 = .ok (.invokevirtual 210, 3) := by decide +kernel
theorem dX6_distancesAgree_62 : decode cX6_distancesAgree 62 = .ok (.if_icmp .eq 5, 3) := by decide +kernel
theorem dX6_distancesAgree_65 : decode cX6_distancesAgree 65 = .ok (.iconst 0, 1) := by decide +kernel
theorem dX6_distancesAgree_66 : decode cX6_distancesAgree 66 = .ok (.ireturn, 1) := by decide +kernel
theorem dX6_distancesAgree_67 : decode cX6_distancesAgree 67 = .ok (.iinc 2 1, 3) := by decide +kernel
theorem dX6_distancesAgree_70 : decode cX6_distancesAgree 70 = .ok (.goto (-31), 3) := by decide +kernel
theorem dX6_distancesAgree_73 : decode cX6_distancesAgree 73 = .ok (.iinc 1 1, 3) := by decide +kernel
theorem dX6_distancesAgree_76 : decode cX6_distancesAgree 76 = .ok (.goto (-60), 3) := by decide +kernel
theorem dX6_distancesAgree_79 : decode cX6_distancesAgree 79 = .ok (.iconst 1, 1) := by decide +kernel
theorem dX6_distancesAgree_80 : decode cX6_distancesAgree 80 = .ok (.ireturn, 1) := by decide +kernel
set_option maxRecDepth 20000 in
theorem ggX6_renderStreet_X4_has : GoodIn wsX6_renderStreet wsX4_has := goodIn_r _ [15, 16, 277, 278, 279, 280, 281, 282, 283, 284, 285] (by decide +kernel) (by decide +kernel)
set_option maxRecDepth 20000 in
theorem gX6_renderStreet_X4_has : GoodIn wsX6_renderStreet (wsV RX6 158 RX4 yX4_has wsX4_has) := goodIn_app (goodIn_of _ (by decide +kernel)) ggX6_renderStreet_X4_has
set_option maxRecDepth 20000 in
theorem ggX6_renderStreet_J4_setLength_d00df : GoodIn wsX6_renderStreet wsJ4_setLength_d00df := goodIn_r _ [21, 22, 23, 24, 25, 26, 27, 28, 29, 30, 31, 32, 33, 34, 35, 36, 37, 38, 39, 40, 41, 42, 43, 44, 45, 46, 47, 48, 49, 50, 51, 52, 53, 54, 55, 56, 57, 58, 59, 60, 61, 62, 63, 64, 65, 66, 67, 68, 69, 70, 71, 72, 73, 74, 75, 76, 77, 78, 79, 80, 81, 82, 83, 84, 85, 86, 87, 88, 89, 90, 91, 92, 93, 20, 94, 95, 96, 97, 98, 99, 100, 101, 286, 287, 288, 289, 290, 291, 292, 293, 294, 295, 296, 297, 298, 299, 300, 301] (by decide +kernel) (by decide +kernel)
set_option maxRecDepth 20000 in
theorem gX6_renderStreet_J4_setLength_d00df : GoodIn wsX6_renderStreet (wsV RX6 305 RJ4 yJ4_setLength_d00df wsJ4_setLength_d00df) := goodIn_app (goodIn_of _ (by decide +kernel)) ggX6_renderStreet_J4_setLength_d00df
set_option maxRecDepth 20000 in
theorem ggX6_renderStreet_J4_append_bf812 : GoodIn wsX6_renderStreet wsJ4_append_bf812 := goodIn_r _ [105, 106, 107, 24, 108, 26, 109, 31, 32, 110, 111, 112, 113, 34, 35, 36, 37, 38, 39, 40, 41, 42, 43, 44, 45, 46, 47, 48, 49, 50, 51, 52, 53, 54, 55, 56, 57, 58, 59, 60, 61, 62, 63, 64, 65, 66, 67, 68, 69, 70, 71, 72, 73, 74, 75, 76, 77, 78, 79, 80, 81, 114, 115, 116, 117, 118, 119, 120, 99, 121, 122, 123, 124, 125, 126, 127, 128, 129, 130, 131, 132, 133, 134, 135, 136, 137, 138, 139, 140, 141, 142, 143, 144, 145, 146, 147, 292, 293, 294, 295] (by decide +kernel) (by decide +kernel)
set_option maxRecDepth 20000 in
theorem gX6_renderStreet_J4_append_bf812 : GoodIn wsX6_renderStreet (wsV RX6 309 RJ4 yJ4_append_bf812 wsJ4_append_bf812) := goodIn_app (goodIn_of _ (by decide +kernel)) ggX6_renderStreet_J4_append_bf812
set_option maxRecDepth 20000 in
theorem ggX6_renderStreet_J4_append_cf468 : GoodIn wsX6_renderStreet wsJ4_append_cf468 := goodIn_r _ [151, 152, 153, 24, 154, 26, 155, 31, 32, 34, 35, 36, 37, 38, 39, 40, 41, 42, 43, 44, 45, 46, 47, 48, 49, 50, 51, 52, 53, 54, 55, 56, 57, 58, 59, 60, 61, 62, 63, 64, 65, 66, 67, 68, 69, 70, 71, 72, 73, 74, 75, 76, 77, 78, 79, 80, 81, 156, 157, 84, 158, 159, 160, 161, 162, 163, 164, 165, 99, 166, 167, 168, 169, 170, 171, 172, 173, 174, 175, 176, 177, 178, 179, 126, 127, 128, 180, 181, 131, 182, 133, 183, 184, 136, 185, 143, 144, 145, 122, 146, 147, 186, 187, 188, 189, 190, 191, 192, 193, 194, 195, 196, 197, 292, 293, 294, 295] (by decide +kernel) (by decide +kernel)
set_option maxRecDepth 20000 in
theorem gX6_renderStreet_J4_append_cf468 : GoodIn wsX6_renderStreet (wsV RX6 313 RJ4 yJ4_append_cf468 wsJ4_append_cf468) := goodIn_app (goodIn_of _ (by decide +kernel)) ggX6_renderStreet_J4_append_cf468
set_option maxRecDepth 20000 in
theorem ggX6_renderStreet_J4_append_15ec4 : GoodIn wsX6_renderStreet wsJ4_append_15ec4 := goodIn_r _ [201, 202, 203, 24, 204, 26, 205, 31, 206, 207, 208, 209, 210, 32, 34, 35, 36, 37, 38, 39, 40, 41, 42, 43, 44, 45, 46, 47, 48, 49, 50, 51, 52, 53, 54, 55, 56, 57, 58, 59, 60, 61, 62, 63, 64, 65, 66, 67, 68, 69, 70, 71, 72, 73, 74, 75, 76, 77, 78, 79, 80, 81, 211, 212, 99, 213, 122, 123, 124, 125, 126, 127, 128, 129, 130, 131, 132, 133, 134, 135, 136, 137, 143, 144, 145, 146, 147, 214, 215, 216, 217, 218, 219, 220, 221, 222, 223, 224, 225, 226, 227, 228, 229, 230, 231, 232, 233, 234, 235, 159, 160, 161, 162, 163, 164, 165, 166, 167, 168, 169, 170, 171, 172, 84, 173, 174, 175, 176, 177, 178, 179, 180, 181, 182, 183, 184, 185, 236, 237, 238, 239, 240, 241, 292, 293, 294, 295, 302, 303, 304, 305] (by decide +kernel) (by decide +kernel)
set_option maxRecDepth 20000 in
theorem gX6_renderStreet_J4_append_15ec4 : GoodIn wsX6_renderStreet (wsV RX6 318 RJ4 yJ4_append_15ec4 wsJ4_append_15ec4) := goodIn_app (goodIn_of _ (by decide +kernel)) ggX6_renderStreet_J4_append_15ec4
set_option maxRecDepth 20000 in
theorem ggX6_renderStreet_X4_saltLeft : GoodIn wsX6_renderStreet wsX4_saltLeft := goodIn_ca (goodIn_r _ [245, 246, 247, 12, 13, 14, 15, 16, 277, 278, 279, 280, 281, 282, 283, 284, 285] (by decide +kernel) (by decide +kernel)) (goodIn_sub (fun _ h => List.mem_cons_of_mem _ (List.mem_append_right _ h)) (by decide +kernel))
set_option maxRecDepth 20000 in
theorem gX6_renderStreet_X4_saltLeft : GoodIn wsX6_renderStreet (wsV RX6 185 RX4 yX4_saltLeft wsX4_saltLeft) := goodIn_app (goodIn_of _ (by decide +kernel)) ggX6_renderStreet_X4_saltLeft
set_option maxRecDepth 20000 in
theorem ggX6_renderStreet_J4_length_8abf5 : GoodIn wsX6_renderStreet wsJ4_length_8abf5 := goodIn_r _ [251, 252, 253, 24, 254, 26, 255, 31, 292, 293, 294, 295] (by decide +kernel) (by decide +kernel)
set_option maxRecDepth 20000 in
theorem gX6_renderStreet_J4_length_8abf5 : GoodIn wsX6_renderStreet (wsV RX6 321 RJ4 yJ4_length_8abf5 wsJ4_length_8abf5) := goodIn_app (goodIn_of _ (by decide +kernel)) ggX6_renderStreet_J4_length_8abf5
theorem dX6_renderStreet_0 : decode cX6_renderStreet 0 = .ok (.aload_n 0, 1) := by decide +kernel
theorem dX6_renderStreet_1 : decode cX6_renderStreet 1 = .ok (.getfield 21, 3) := by decide +kernel
theorem dX6_renderStreet_4 : decode cX6_renderStreet 4 = .ok (.getfield 149, 3) := by decide +kernel
theorem dX6_renderStreet_7 : decode cX6_renderStreet 7 = .ok (.astore_n 2, 1) := by decide +kernel
theorem dX6_renderStreet_8 : decode cX6_renderStreet 8 = .ok (.aload_n 2, 1) := by decide +kernel
theorem dX6_renderStreet_9 : decode cX6_renderStreet 9 = .ok (.iload_n 1, 1) := by decide +kernel
theorem dX6_renderStreet_10 : decode cX6_renderStreet 10 = .ok (.invokevirtual 158, 3) := by decide +kernel
theorem dX6_renderStreet_13 : decode cX6_renderStreet 13 = .ok (.ifCond .ne 13, 3) := by decide +kernel
theorem dX6_renderStreet_16 : decode cX6_renderStreet 16 = .ok (.new 71, 3) := by decide +kernel
theorem dX6_renderStreet_19 : decode cX6_renderStreet 19 = .ok (.dup, 1) := by decide +kernel
theorem dX6_renderStreet_20 : decode cX6_renderStreet 20 = .ok (.ldc 118, 2) := by decide +kernel
theorem dX6_renderStreet_22 : decode cX6_renderStreet 22 = .ok (.invokespecial 75, 3) := by decide +kernel
theorem dX6_renderStreet_25 : decode cX6_renderStreet 25 = .ok (.athrow, 1) := by decide +kernel
theorem dX6_renderStreet_26 : decode cX6_renderStreet 26 = .ok (.aload_n 0, 1) := by decide +kernel
theorem dX6_renderStreet_27 : decode cX6_renderStreet 27 = .ok (.getfield 48, 3) := by decide +kernel
theorem dX6_renderStreet_30 : decode cX6_renderStreet 30 = .ok (.iconst 0, 1) := by decide +kernel
theorem dX6_renderStreet_31 : decode cX6_renderStreet 31 = .ok (.invokevirtual 305, 3) := by decide +kernel
theorem dX6_renderStreet_34 : decode cX6_renderStreet 34 = .ok (.aload_n 0, 1) := by decide +kernel
theorem dX6_renderStreet_35 : decode cX6_renderStreet 35 = .ok (.getfield 48, 3) := by decide +kernel
theorem dX6_renderStreet_38 : decode cX6_renderStreet 38 = .ok (.iload_n 1, 1) := by decide +kernel
theorem dX6_renderStreet_39 : decode cX6_renderStreet 39 = .ok (.invokevirtual 309, 3) := by decide +kernel
theorem dX6_renderStreet_42 : decode cX6_renderStreet 42 = .ok (.pop, 1) := by decide +kernel
theorem dX6_renderStreet_43 : decode cX6_renderStreet 43 = .ok (.aload_n 0, 1) := by decide +kernel
theorem dX6_renderStreet_44 : decode cX6_renderStreet 44 = .ok (.getfield 48, 3) := by decide +kernel
theorem dX6_renderStreet_47 : decode cX6_renderStreet 47 = .ok (.bipush 58, 2) := by decide +kernel
theorem dX6_renderStreet_49 : decode cX6_renderStreet 49 = .ok (.invokevirtual 313, 3) := by decide +kernel
theorem dX6_renderStreet_52 : decode cX6_renderStreet 52 = .ok (.pop, 1) := by decide +kernel
theorem dX6_renderStreet_53 : decode cX6_renderStreet 53 = .ok (.aload_n 0, 1) := by decide +kernel
theorem dX6_renderStreet_54 : decode cX6_renderStreet 54 = .ok (.getfield 48, 3) := by decide +kernel
theorem dX6_renderStreet_57 : decode cX6_renderStreet 57 = .ok (.aload_n 2, 1) := by decide +kernel
theorem dX6_renderStreet_58 : decode cX6_renderStreet 58 = .ok (.getfield 162, 3) := by decide +kernel
theorem dX6_renderStreet_61 : decode cX6_renderStreet 61 = .ok (.iload_n 1, 1) := by decide +kernel
theorem dX6_renderStreet_62 : decode cX6_renderStreet 62 = .ok (.iaload, 1) := by decide +kernel
theorem dX6_renderStreet_63 : decode cX6_renderStreet 63 = .ok (.invokevirtual 309, 3) := by decide +kernel
theorem dX6_renderStreet_66 : decode cX6_renderStreet 66 = .ok (.pop, 1) := by decide +kernel
theorem dX6_renderStreet_67 : decode cX6_renderStreet 67 = .ok (.aload_n 0, 1) := by decide +kernel
theorem dX6_renderStreet_68 : decode cX6_renderStreet 68 = .ok (.getfield 48, 3) := by decide +kernel
theorem dX6_renderStreet_71 : decode cX6_renderStreet 71 = .ok (.bipush 45, 2) := by decide +kernel
theorem dX6_renderStreet_73 : decode cX6_renderStreet 73 = .ok (.invokevirtual 313, 3) := by decide +kernel
theorem dX6_renderStreet_76 : decode cX6_renderStreet 76 = .ok (.pop, 1) := by decide +kernel
theorem dX6_renderStreet_77 : decode cX6_renderStreet 77 = .ok (.aload_n 0, 1) := by decide +kernel
theorem dX6_renderStreet_78 : decode cX6_renderStreet 78 = .ok (.getfield 48, 3) := by decide +kernel
theorem dX6_renderStreet_81 : decode cX6_renderStreet 81 = .ok (.aload_n 2, 1) := by decide +kernel
theorem dX6_renderStreet_82 : decode cX6_renderStreet 82 = .ok (.getfield 166, 3) := by decide +kernel
theorem dX6_renderStreet_85 : decode cX6_renderStreet 85 = .ok (.iload_n 1, 1) := by decide +kernel
theorem dX6_renderStreet_86 : decode cX6_renderStreet 86 = .ok (.iaload, 1) := by decide +kernel
theorem dX6_renderStreet_87 : decode cX6_renderStreet 87 = .ok (.invokevirtual 309, 3) := by decide +kernel
theorem dX6_renderStreet_90 : decode cX6_renderStreet 90 = .ok (.pop, 1) := by decide +kernel
theorem dX6_renderStreet_91 : decode cX6_renderStreet 91 = .ok (.aload_n 0, 1) := by decide +kernel
theorem dX6_renderStreet_92 : decode cX6_renderStreet 92 = .ok (.getfield 48, 3) := by decide +kernel
theorem dX6_renderStreet_95 : decode cX6_renderStreet 95 = .ok (.aload_n 2, 1) := by decide +kernel
theorem dX6_renderStreet_96 : decode cX6_renderStreet 96 = .ok (.getfield 169, 3) := by decide +kernel
theorem dX6_renderStreet_99 : decode cX6_renderStreet 99 = .ok (.iload_n 1, 1) := by decide +kernel
theorem dX6_renderStreet_100 : decode cX6_renderStreet 100 = .ok (.caload, 1) := by decide +kernel
theorem dX6_renderStreet_101 : decode cX6_renderStreet 101 = .ok (.invokevirtual 313, 3) := by decide +kernel
theorem dX6_renderStreet_104 : decode cX6_renderStreet 104 = .ok (.pop, 1) := by decide +kernel
theorem dX6_renderStreet_105 : decode cX6_renderStreet 105 = .ok (.aload_n 0, 1) := by decide +kernel
theorem dX6_renderStreet_106 : decode cX6_renderStreet 106 = .ok (.getfield 48, 3) := by decide +kernel
theorem dX6_renderStreet_109 : decode cX6_renderStreet 109 = .ok (.aload_n 2, 1) := by decide +kernel
theorem dX6_renderStreet_110 : decode cX6_renderStreet 110 = .ok (.getfield 176, 3) := by decide +kernel
theorem dX6_renderStreet_113 : decode cX6_renderStreet 113 = .ok (.iload_n 1, 1) := by decide +kernel
theorem dX6_renderStreet_114 : decode cX6_renderStreet 114 = .ok (.iaload, 1) := by decide +kernel
theorem dX6_renderStreet_115 : decode cX6_renderStreet 115 = .ok (.invokevirtual 309, 3) := by decide +kernel
theorem dX6_renderStreet_118 : decode cX6_renderStreet 118 = .ok (.pop, 1) := by decide +kernel
theorem dX6_renderStreet_119 : decode cX6_renderStreet 119 = .ok (.aload_n 0, 1) := by decide +kernel
theorem dX6_renderStreet_120 : decode cX6_renderStreet 120 = .ok (.getfield 48, 3) := by decide +kernel
theorem dX6_renderStreet_123 : decode cX6_renderStreet 123 = .ok (.ldc_w 316, 3) := by decide +kernel
theorem dX6_renderStreet_126 : decode cX6_renderStreet 126 = .ok (.invokevirtual 318, 3) := by decide +kernel
theorem dX6_renderStreet_129 : decode cX6_renderStreet 129 = .ok (.pop, 1) := by decide +kernel
theorem dX6_renderStreet_130 : decode cX6_renderStreet 130 = .ok (.aload_n 2, 1) := by decide +kernel
theorem dX6_renderStreet_131 : decode cX6_renderStreet 131 = .ok (.iload_n 1, 1) := by decide +kernel
theorem dX6_renderStreet_132 : decode cX6_renderStreet 132 = .ok (.aload_n 0, 1) := by decide +kernel
theorem dX6_renderStreet_133 : decode cX6_renderStreet 133 = .ok (.getfield 21, 3) := by decide +kernel
theorem dX6_renderStreet_136 : decode cX6_renderStreet 136 = .ok (.getfield 182, 3) := by decide +kernel
theorem dX6_renderStreet_139 : decode cX6_renderStreet 139 = .ok (.invokevirtual 185, 3) := by decide +kernel
theorem dX6_renderStreet_142 : decode cX6_renderStreet 142 = .ok (.ifCond .le 13, 3) := by decide +kernel
theorem dX6_renderStreet_145 : decode cX6_renderStreet 145 = .ok (.aload_n 0, 1) := by decide +kernel
theorem dX6_renderStreet_146 : decode cX6_renderStreet 146 = .ok (.getfield 48, 3) := by decide +kernel
theorem dX6_renderStreet_149 : decode cX6_renderStreet 149 = .ok (.bipush 42, 2) := by decide +kernel
theorem dX6_renderStreet_151 : decode cX6_renderStreet 151 = .ok (.invokevirtual 313, 3) := by decide +kernel
theorem dX6_renderStreet_154 : decode cX6_renderStreet 154 = .ok (.pop, 1) := by decide +kernel
theorem dX6_renderStreet_155 : decode cX6_renderStreet 155 = .ok (.aload_n 0, 1) := by decide +kernel
