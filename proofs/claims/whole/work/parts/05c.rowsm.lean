theorem dX7_save_20 : decode cX7_save 20 = .ok (.putfield 264, 3) := by decide +kernel
theorem dX7_save_23 : decode cX7_save 23 = .ok (.aload_n 0, 1) := by decide +kernel
theorem dX7_save_24 : decode cX7_save 24 = .ok (.getfield 9, 3) := by decide +kernel
theorem dX7_save_27 : decode cX7_save 27 = .ok (.iconst 1, 1) := by decide +kernel
theorem dX7_save_28 : decode cX7_save 28 = .ok (.iaload, 1) := by decide +kernel
theorem dX7_save_29 : decode cX7_save 29 = .ok (.ireturn, 1) := by decide +kernel
theorem dX7_restore_0 : decode cX7_restore 0 = .ok (.aload_n 0, 1) := by decide +kernel
theorem dX7_restore_1 : decode cX7_restore 1 = .ok (.aload_n 0, 1) := by decide +kernel
theorem dX7_restore_2 : decode cX7_restore 2 = .ok (.getfield 264, 3) := by decide +kernel
theorem dX7_restore_5 : decode cX7_restore 5 = .ok (.ifCond .ne 7, 3) := by decide +kernel
theorem dX7_restore_8 : decode cX7_restore 8 = .ok (.iconst 1, 1) := by decide +kernel
theorem dX7_restore_9 : decode cX7_restore 9 = .ok (.goto 4, 3) := by decide +kernel
theorem dX7_restore_12 : decode cX7_restore 12 = .ok (.iconst 0, 1) := by decide +kernel
theorem dX7_restore_13 : decode cX7_restore 13 = .ok (.iconst 1, 1) := by decide +kernel
theorem dX7_restore_14 : decode cX7_restore 14 = .ok (.invokevirtual 79, 3) := by decide +kernel
theorem dX7_restore_17 : decode cX7_restore 17 = .ok (.ifCond .eq 5, 3) := by decide +kernel
theorem dX7_restore_20 : decode cX7_restore 20 = .ok (.iconst 0, 1) := by decide +kernel
theorem dX7_restore_21 : decode cX7_restore 21 = .ok (.ireturn, 1) := by decide +kernel
theorem dX7_restore_22 : decode cX7_restore 22 = .ok (.aload_n 0, 1) := by decide +kernel
theorem dX7_restore_23 : decode cX7_restore 23 = .ok (.getfield 19, 3) := by decide +kernel
theorem dX7_restore_26 : decode cX7_restore 26 = .ok (.iconst 0, 1) := by decide +kernel
theorem dX7_restore_27 : decode cX7_restore 27 = .ok (.aload_n 0, 1) := by decide +kernel
theorem dX7_restore_28 : decode cX7_restore 28 = .ok (.getfield 9, 3) := by decide +kernel
theorem dX7_restore_31 : decode cX7_restore 31 = .ok (.iconst 0, 1) := by decide +kernel
theorem dX7_restore_32 : decode cX7_restore 32 = .ok (.invokestatic 50, 3) := by decide +kernel
theorem dX7_restore_35 : decode cX7_restore 35 = .ok (.aload_n 0, 1) := by decide +kernel
theorem dX7_restore_36 : decode cX7_restore 36 = .ok (.iconst 0, 1) := by decide +kernel
theorem dX7_restore_37 : decode cX7_restore 37 = .ok (.putfield 54, 3) := by decide +kernel
theorem dX7_restore_40 : decode cX7_restore 40 = .ok (.aload_n 0, 1) := by decide +kernel
theorem dX7_restore_41 : decode cX7_restore 41 = .ok (.getfield 9, 3) := by decide +kernel
theorem dX7_restore_44 : decode cX7_restore 44 = .ok (.iconst 1, 1) := by decide +kernel
theorem dX7_restore_45 : decode cX7_restore 45 = .ok (.iaload, 1) := by decide +kernel
theorem dX7_restore_46 : decode cX7_restore 46 = .ok (.ireturn, 1) := by decide +kernel
set_option maxRecDepth 20000 in
theorem ggX7_keeps_X7_copies : GoodIn wsX7_keeps wsX7_copies := goodIn_ca (goodIn_r _ [7] (by decide +kernel) (by decide +kernel)) (goodIn_sub (fun _ h => List.mem_cons_of_mem _ (List.mem_append_right _ h)) (by decide +kernel))
set_option maxRecDepth 20000 in
theorem gX7_keeps_X7_copies : GoodIn wsX7_keeps (va_wsS RX7 50 yX7_copies wsX7_copies) := goodIn_app (goodIn_of _ (by decide +kernel)) ggX7_keeps_X7_copies
set_option maxRecDepth 20000 in
theorem ggX7_ends_X7_copies : GoodIn wsX7_ends wsX7_copies := goodIn_ca (goodIn_r _ [8] (by decide +kernel) (by decide +kernel)) (goodIn_sub (fun _ h => List.mem_cons_of_mem _ (List.mem_append_right _ h)) (by decide +kernel))
set_option maxRecDepth 20000 in
theorem gX7_ends_X7_copies : GoodIn wsX7_ends (va_wsS RX7 50 yX7_copies wsX7_copies) := goodIn_app (goodIn_of _ (by decide +kernel)) ggX7_ends_X7_copies
set_option maxRecDepth 20000 in
theorem ggX7_isJunction_X7_isIn : GoodIn wsX7_isJunction wsX7_isIn := goodIn_r _ [4] (by decide +kernel) (by decide +kernel)
set_option maxRecDepth 20000 in
theorem gX7_isJunction_X7_isIn : GoodIn wsX7_isJunction (va_wsS RX7 57 yX7_isIn wsX7_isIn) := goodIn_app (goodIn_of _ (by decide +kernel)) ggX7_isJunction_X7_isIn
set_option maxRecDepth 20000 in
theorem ggX7_isStreet_X7_isIn : GoodIn wsX7_isStreet wsX7_isIn := goodIn_r _ [5] (by decide +kernel) (by decide +kernel)
set_option maxRecDepth 20000 in
theorem gX7_isStreet_X7_isIn : GoodIn wsX7_isStreet (va_wsS RX7 57 yX7_isIn wsX7_isIn) := goodIn_app (goodIn_of _ (by decide +kernel)) ggX7_isStreet_X7_isIn
set_option maxRecDepth 20000 in
theorem ggX7_isPlough_X7_isIn : GoodIn wsX7_isPlough wsX7_isIn := goodIn_r _ [5] (by decide +kernel) (by decide +kernel)
set_option maxRecDepth 20000 in
theorem gX7_isPlough_X7_isIn : GoodIn wsX7_isPlough (va_wsS RX7 57 yX7_isIn wsX7_isIn) := goodIn_app (goodIn_of _ (by decide +kernel)) ggX7_isPlough_X7_isIn
set_option maxRecDepth 20000 in
theorem ggX7_limit_X7_of : GoodIn wsX7_limit wsX7_of := goodIn_ca (goodIn_r _ [5, 6, 7, 8, 9, 10, 11, 12, 13, 14, 15, 16, 17, 18, 19, 20, 21, 22, 23, 24, 25, 26] (by decide +kernel) (by decide +kernel)) (goodIn_sub (fun _ h => List.mem_cons_of_mem _ (List.mem_append_right _ h)) (by decide +kernel))
set_option maxRecDepth 20000 in
theorem gX7_limit_X7_of : GoodIn wsX7_limit (wsV RX7 61 RX7 yX7_of wsX7_of) := goodIn_app (goodIn_of _ (by decide +kernel)) ggX7_limit_X7_of
set_option maxRecDepth 20000 in
theorem ggX7_overdue_X7_of : GoodIn wsX7_overdue wsX7_of := goodIn_ca (goodIn_r _ [5, 6, 11, 12, 13, 14, 15, 16, 17, 18, 19, 20, 21, 22, 23, 24, 25, 26, 27, 28, 29, 30] (by decide +kernel) (by decide +kernel)) (goodIn_sub (fun _ h => List.mem_cons_of_mem _ (List.mem_append_right _ h)) (by decide +kernel))
set_option maxRecDepth 20000 in
theorem gX7_overdue_X7_of : GoodIn wsX7_overdue (wsV RX7 61 RX7 yX7_of wsX7_of) := goodIn_app (goodIn_of _ (by decide +kernel)) ggX7_overdue_X7_of
set_option maxRecDepth 20000 in
theorem ggX7_overdue_X7_limit : GoodIn wsX7_overdue wsX7_limit := goodIn_ca (goodIn_r _ [10, 1, 2, 3, 4, 5, 6, 11, 12, 13, 14, 15, 16, 17, 18, 19, 20, 21, 22, 23, 24, 25, 26, 27, 28, 29, 30] (by decide +kernel) (by decide +kernel)) (goodIn_sub (fun _ h => List.mem_cons_of_mem _ (List.mem_append_right _ h)) (by decide +kernel))
set_option maxRecDepth 20000 in
theorem gX7_overdue_X7_limit : GoodIn wsX7_overdue (wsV RX7 65 RX7 yX7_limit wsX7_limit) := goodIn_app (goodIn_of _ (by decide +kernel)) ggX7_overdue_X7_limit
set_option maxRecDepth 20000 in
theorem ggX7_salted_X7_of : GoodIn wsX7_salted wsX7_of := goodIn_ca (goodIn_r _ [6, 1, 7, 8, 9, 10, 11, 12, 13, 14, 15, 16, 17, 18, 19, 20, 21, 22, 23, 24, 25, 26] (by decide +kernel) (by decide +kernel)) (goodIn_sub (fun _ h => List.mem_cons_of_mem _ (List.mem_append_right _ h)) (by decide +kernel))
set_option maxRecDepth 20000 in
theorem gX7_salted_X7_of : GoodIn wsX7_salted (wsV RX7 61 RX7 yX7_of wsX7_of) := goodIn_app (goodIn_of _ (by decide +kernel)) ggX7_salted_X7_of
set_option maxRecDepth 20000 in
theorem ggX7_joins_X7_of : GoodIn wsX7_joins wsX7_of := goodIn_ca (goodIn_r _ [6, 1, 13, 14, 15, 16, 17, 18, 19, 20, 21, 22, 23, 24, 25, 26, 27, 28, 29, 30, 31, 32] (by decide +kernel) (by decide +kernel)) (goodIn_sub (fun _ h => List.mem_cons_of_mem _ (List.mem_append_right _ h)) (by decide +kernel))
set_option maxRecDepth 20000 in
theorem gX7_joins_X7_of : GoodIn wsX7_joins (wsV RX7 61 RX7 yX7_of wsX7_of) := goodIn_app (goodIn_of _ (by decide +kernel)) ggX7_joins_X7_of
set_option maxRecDepth 20000 in
theorem ggX7_joins_X7_lesser : GoodIn wsX7_joins wsX7_lesser := goodIn_r _ [9] (by decide +kernel) (by decide +kernel)
set_option maxRecDepth 20000 in
theorem gX7_joins_X7_lesser : GoodIn wsX7_joins (va_wsS RX7 69 yX7_lesser wsX7_lesser) := goodIn_app (goodIn_of _ (by decide +kernel)) ggX7_joins_X7_lesser
set_option maxRecDepth 20000 in
theorem ggX7_joins_X7_greater : GoodIn wsX7_joins wsX7_greater := goodIn_r _ [12] (by decide +kernel) (by decide +kernel)
set_option maxRecDepth 20000 in
theorem gX7_joins_X7_greater : GoodIn wsX7_joins (va_wsS RX7 72 yX7_greater wsX7_greater) := goodIn_app (goodIn_of _ (by decide +kernel)) ggX7_joins_X7_greater
set_option maxRecDepth 20000 in
theorem ggX7_streets_X7_isJunction : GoodIn wsX7_streets wsX7_isJunction := goodIn_r _ [5, 6, 7, 4, 8] (by decide +kernel) (by decide +kernel)
set_option maxRecDepth 20000 in
theorem gX7_streets_X7_isJunction : GoodIn wsX7_streets (va_wsS RX7 75 yX7_isJunction wsX7_isJunction) := goodIn_app (goodIn_of _ (by decide +kernel)) ggX7_streets_X7_isJunction
set_option maxRecDepth 20000 in
theorem ggX7_streets_X7_isThrown : GoodIn wsX7_streets wsX7_isThrown := goodIn_r _ [12, 13, 32, 33, 34, 35, 36, 37, 38, 39, 40, 41, 42, 43, 44, 45, 46, 47, 48, 49, 50, 51] (by decide +kernel) (by decide +kernel)
set_option maxRecDepth 20000 in
theorem gX7_streets_X7_isThrown : GoodIn wsX7_streets (wsV RX7 79 RX7 yX7_isThrown wsX7_isThrown) := goodIn_app (goodIn_of _ (by decide +kernel)) ggX7_streets_X7_isThrown
set_option maxRecDepth 20000 in
theorem ggX7_streets_X7_isIn : GoodIn wsX7_streets wsX7_isIn := goodIn_r _ [8] (by decide +kernel) (by decide +kernel)
set_option maxRecDepth 20000 in
theorem gX7_streets_X7_isIn : GoodIn wsX7_streets (va_wsS RX7 57 yX7_isIn wsX7_isIn) := goodIn_app (goodIn_of _ (by decide +kernel)) ggX7_streets_X7_isIn
set_option maxRecDepth 20000 in
theorem ggX7_streets_X7_joins : GoodIn wsX7_streets wsX7_joins := goodIn_ca (goodIn_r _ [17, 1, 18, 19, 20, 4, 21, 22, 23, 24, 25, 26, 27, 32, 33, 34, 35, 36, 37, 38, 39, 40, 41, 42, 43, 44, 45, 46, 47, 48, 49, 50, 51] (by decide +kernel) (by decide +kernel)) (goodIn_sub (fun _ h => List.mem_cons_of_mem _ (List.mem_append_right _ h)) (by decide +kernel))
set_option maxRecDepth 20000 in
theorem gX7_streets_X7_joins : GoodIn wsX7_streets (wsV RX7 83 RX7 yX7_joins wsX7_joins) := goodIn_app (goodIn_of _ (by decide +kernel)) ggX7_streets_X7_joins
set_option maxRecDepth 20000 in
theorem ggX7_streets_X7_lesser : GoodIn wsX7_streets wsX7_lesser := goodIn_r _ [24] (by decide +kernel) (by decide +kernel)
set_option maxRecDepth 20000 in
theorem gX7_streets_X7_lesser : GoodIn wsX7_streets (va_wsS RX7 69 yX7_lesser wsX7_lesser) := goodIn_app (goodIn_of _ (by decide +kernel)) ggX7_streets_X7_lesser
set_option maxRecDepth 20000 in
theorem ggX7_streets_X7_sets : GoodIn wsX7_streets wsX7_sets := goodIn_ca (goodIn_r _ [31, 1, 32, 33, 34, 35, 36, 37, 38, 39, 40, 41, 42, 43, 44, 45, 46, 47, 48, 49, 50, 51] (by decide +kernel) (by decide +kernel)) (goodIn_sub (fun _ h => List.mem_cons_of_mem _ (List.mem_append_right _ h)) (by decide +kernel))
set_option maxRecDepth 20000 in
theorem gX7_streets_X7_sets : GoodIn wsX7_streets (wsV RX7 87 RX7 yX7_sets wsX7_sets) := goodIn_app (goodIn_of _ (by decide +kernel)) ggX7_streets_X7_sets
set_option maxRecDepth 20000 in
theorem ggX7_streets_X7_greater : GoodIn wsX7_streets wsX7_greater := goodIn_r _ [27] (by decide +kernel) (by decide +kernel)
set_option maxRecDepth 20000 in
theorem gX7_streets_X7_greater : GoodIn wsX7_streets (va_wsS RX7 72 yX7_greater wsX7_greater) := goodIn_app (goodIn_of _ (by decide +kernel)) ggX7_streets_X7_greater
set_option maxRecDepth 20000 in
theorem ggX7_addStreet_X7_keeps : GoodIn wsX7_addStreet wsX7_keeps := goodIn_ca (goodIn_r _ [5, 6, 7, 8, 9, 10, 4, 11, 50, 51, 52, 53, 54, 55, 56, 57, 58, 59, 60, 61, 62, 63, 64, 65, 66, 67, 68, 69] (by decide +kernel) (by decide +kernel)) (goodIn_sub (fun _ h => List.mem_cons_of_mem _ (List.mem_append_right _ h)) (by decide +kernel))
set_option maxRecDepth 20000 in
theorem gX7_addStreet_X7_keeps : GoodIn wsX7_addStreet (wsV RX7 91 RX7 yX7_keeps wsX7_keeps) := goodIn_app (goodIn_of _ (by decide +kernel)) ggX7_addStreet_X7_keeps
set_option maxRecDepth 20000 in
theorem ggX7_addStreet_X7_streets : GoodIn wsX7_addStreet wsX7_streets := goodIn_ca (goodIn_r _ [15, 6, 16, 17, 4, 18, 19, 20, 21, 22, 23, 24, 25, 8, 26, 27, 28, 29, 30, 31, 32, 33, 34, 35, 36, 37, 38, 39, 40, 41, 42, 43, 50, 51, 52, 53, 54, 55, 56, 57, 58, 59, 60, 61, 62, 63, 64, 65, 66, 67, 68, 69] (by decide +kernel) (by decide +kernel)) (goodIn_sub (fun _ h => List.mem_cons_of_mem _ (List.mem_append_right _ h)) (by decide +kernel))
set_option maxRecDepth 20000 in
theorem gX7_addStreet_X7_streets : GoodIn wsX7_addStreet (wsV RX7 94 RX7 yX7_streets wsX7_streets) := goodIn_app (goodIn_of _ (by decide +kernel)) ggX7_addStreet_X7_streets
set_option maxRecDepth 20000 in
theorem ggX7_addStreet_X7_ends : GoodIn wsX7_addStreet wsX7_ends := goodIn_ca (goodIn_r _ [47, 8, 48, 49, 7, 9, 10, 4, 11, 50, 51, 52, 53, 54, 55, 56, 57, 58, 59, 60, 61, 62, 63, 64, 65, 66, 67, 68, 69] (by decide +kernel) (by decide +kernel)) (goodIn_sub (fun _ h => List.mem_cons_of_mem _ (List.mem_append_right _ h)) (by decide +kernel))
set_option maxRecDepth 20000 in
theorem gX7_addStreet_X7_ends : GoodIn wsX7_addStreet (wsV RX7 98 RX7 yX7_ends wsX7_ends) := goodIn_app (goodIn_of _ (by decide +kernel)) ggX7_addStreet_X7_ends
set_option maxRecDepth 20000 in
theorem ggX7_ploughs_X7_isJunction : GoodIn wsX7_ploughs wsX7_isJunction := goodIn_r _ [5, 6, 7, 4, 8] (by decide +kernel) (by decide +kernel)
set_option maxRecDepth 20000 in
theorem gX7_ploughs_X7_isJunction : GoodIn wsX7_ploughs (va_wsS RX7 75 yX7_isJunction wsX7_isJunction) := goodIn_app (goodIn_of _ (by decide +kernel)) ggX7_ploughs_X7_isJunction
set_option maxRecDepth 20000 in
theorem ggX7_ploughs_X7_isThrown : GoodIn wsX7_ploughs wsX7_isThrown := goodIn_r _ [12, 13, 18, 19, 20, 21, 22, 23, 24, 25, 26, 27, 28, 29, 30, 31, 32, 33, 34, 35, 36, 37] (by decide +kernel) (by decide +kernel)
set_option maxRecDepth 20000 in
theorem gX7_ploughs_X7_isThrown : GoodIn wsX7_ploughs (wsV RX7 79 RX7 yX7_isThrown wsX7_isThrown) := goodIn_app (goodIn_of _ (by decide +kernel)) ggX7_ploughs_X7_isThrown
set_option maxRecDepth 20000 in
theorem ggX7_ploughs_X7_setsPlough : GoodIn wsX7_ploughs wsX7_setsPlough := goodIn_ca (goodIn_r _ [17, 1, 18, 19, 20, 21, 22, 23, 24, 25, 26, 27, 28, 29, 30, 31, 32, 33, 34, 35, 36, 37] (by decide +kernel) (by decide +kernel)) (goodIn_sub (fun _ h => List.mem_cons_of_mem _ (List.mem_append_right _ h)) (by decide +kernel))
set_option maxRecDepth 20000 in
theorem gX7_ploughs_X7_setsPlough : GoodIn wsX7_ploughs (wsV RX7 101 RX7 yX7_setsPlough wsX7_setsPlough) := goodIn_app (goodIn_of _ (by decide +kernel)) ggX7_ploughs_X7_setsPlough
set_option maxRecDepth 20000 in
theorem ggX7_addPlough_X7_keeps : GoodIn wsX7_addPlough wsX7_keeps := goodIn_ca (goodIn_r _ [5, 6, 7, 8, 9, 10, 4, 11, 36, 37, 38, 39, 40, 41, 42, 43, 44, 45, 46, 47, 48, 49, 50, 51, 52, 53, 54, 55] (by decide +kernel) (by decide +kernel)) (goodIn_sub (fun _ h => List.mem_cons_of_mem _ (List.mem_append_right _ h)) (by decide +kernel))
set_option maxRecDepth 20000 in
theorem gX7_addPlough_X7_keeps : GoodIn wsX7_addPlough (wsV RX7 91 RX7 yX7_keeps wsX7_keeps) := goodIn_app (goodIn_of _ (by decide +kernel)) ggX7_addPlough_X7_keeps
set_option maxRecDepth 20000 in
theorem ggX7_addPlough_X7_ploughs : GoodIn wsX7_addPlough wsX7_ploughs := goodIn_ca (goodIn_r _ [15, 6, 16, 17, 4, 18, 19, 20, 21, 22, 23, 24, 25, 8, 26, 27, 28, 29, 36, 37, 38, 39, 40, 41, 42, 43, 44, 45, 46, 47, 48, 49, 50, 51, 52, 53, 54, 55] (by decide +kernel) (by decide +kernel)) (goodIn_sub (fun _ h => List.mem_cons_of_mem _ (List.mem_append_right _ h)) (by decide +kernel))
set_option maxRecDepth 20000 in
theorem gX7_addPlough_X7_ploughs : GoodIn wsX7_addPlough (wsV RX7 104 RX7 yX7_ploughs wsX7_ploughs) := goodIn_app (goodIn_of _ (by decide +kernel)) ggX7_addPlough_X7_ploughs
set_option maxRecDepth 20000 in
theorem ggX7_addPlough_X7_ends : GoodIn wsX7_addPlough wsX7_ends := goodIn_ca (goodIn_r _ [33, 8, 34, 35, 7, 9, 10, 4, 11, 36, 37, 38, 39, 40, 41, 42, 43, 44, 45, 46, 47, 48, 49, 50, 51, 52, 53, 54, 55] (by decide +kernel) (by decide +kernel)) (goodIn_sub (fun _ h => List.mem_cons_of_mem _ (List.mem_append_right _ h)) (by decide +kernel))
set_option maxRecDepth 20000 in
theorem gX7_addPlough_X7_ends : GoodIn wsX7_addPlough (wsV RX7 98 RX7 yX7_ends wsX7_ends) := goodIn_app (goodIn_of _ (by decide +kernel)) ggX7_addPlough_X7_ends
set_option maxRecDepth 20000 in
theorem ggX7_orders_X7_isPlough : GoodIn wsX7_orders wsX7_isPlough := goodIn_ca (goodIn_r _ [5, 6, 7, 8, 4, 9, 27, 28, 29, 30, 31, 32, 33, 34, 35, 36, 37, 38, 39, 40, 41, 42, 43, 44, 45, 46] (by decide +kernel) (by decide +kernel)) (goodIn_sub (fun _ h => List.mem_cons_of_mem _ (List.mem_append_right _ h)) (by decide +kernel))
set_option maxRecDepth 20000 in
theorem gX7_orders_X7_isPlough : GoodIn wsX7_orders (wsV RX7 107 RX7 yX7_isPlough wsX7_isPlough) := goodIn_app (goodIn_of _ (by decide +kernel)) ggX7_orders_X7_isPlough
set_option maxRecDepth 20000 in
theorem ggX7_orders_X7_isStreet : GoodIn wsX7_orders wsX7_isStreet := goodIn_ca (goodIn_r _ [13, 6, 7, 8, 4, 9, 27, 28, 29, 30, 31, 32, 33, 34, 35, 36, 37, 38, 39, 40, 41, 42, 43, 44, 45, 46] (by decide +kernel) (by decide +kernel)) (goodIn_sub (fun _ h => List.mem_cons_of_mem _ (List.mem_append_right _ h)) (by decide +kernel))
set_option maxRecDepth 20000 in
theorem gX7_orders_X7_isStreet : GoodIn wsX7_orders (wsV RX7 110 RX7 yX7_isStreet wsX7_isStreet) := goodIn_app (goodIn_of _ (by decide +kernel)) ggX7_orders_X7_isStreet
set_option maxRecDepth 20000 in
theorem ggX7_orders_X7_isThrown : GoodIn wsX7_orders wsX7_isThrown := goodIn_r _ [17, 18, 27, 28, 29, 30, 31, 32, 33, 34, 35, 36, 37, 38, 39, 40, 41, 42, 43, 44, 45, 46] (by decide +kernel) (by decide +kernel)
set_option maxRecDepth 20000 in
theorem gX7_orders_X7_isThrown : GoodIn wsX7_orders (wsV RX7 79 RX7 yX7_isThrown wsX7_isThrown) := goodIn_app (goodIn_of _ (by decide +kernel)) ggX7_orders_X7_isThrown
set_option maxRecDepth 20000 in
theorem ggX7_orders_X7_ofPlough : GoodIn wsX7_orders wsX7_ofPlough := goodIn_ca (goodIn_r _ [22, 6, 27, 28, 29, 30, 31, 32, 33, 34, 35, 36, 37, 38, 39, 40, 41, 42, 43, 44, 45, 46] (by decide +kernel) (by decide +kernel)) (goodIn_sub (fun _ h => List.mem_cons_of_mem _ (List.mem_append_right _ h)) (by decide +kernel))
set_option maxRecDepth 20000 in
theorem gX7_orders_X7_ofPlough : GoodIn wsX7_orders (wsV RX7 113 RX7 yX7_ofPlough wsX7_ofPlough) := goodIn_app (goodIn_of _ (by decide +kernel)) ggX7_orders_X7_ofPlough
set_option maxRecDepth 20000 in
theorem ggX7_orders_X7_setsPlough : GoodIn wsX7_orders wsX7_setsPlough := goodIn_ca (goodIn_r _ [26, 6, 27, 28, 29, 30, 31, 32, 33, 34, 35, 36, 37, 38, 39, 40, 41, 42, 43, 44, 45, 46] (by decide +kernel) (by decide +kernel)) (goodIn_sub (fun _ h => List.mem_cons_of_mem _ (List.mem_append_right _ h)) (by decide +kernel))
set_option maxRecDepth 20000 in
theorem gX7_orders_X7_setsPlough : GoodIn wsX7_orders (wsV RX7 101 RX7 yX7_setsPlough wsX7_setsPlough) := goodIn_app (goodIn_of _ (by decide +kernel)) ggX7_orders_X7_setsPlough
set_option maxRecDepth 20000 in
theorem ggX7_order_X7_keeps : GoodIn wsX7_order wsX7_keeps := goodIn_ca (goodIn_r _ [5, 6, 7, 8, 9, 10, 4, 11, 45, 46, 47, 48, 49, 50, 51, 52, 53, 54, 55, 56, 57, 58, 59, 60, 61, 62, 63, 64] (by decide +kernel) (by decide +kernel)) (goodIn_sub (fun _ h => List.mem_cons_of_mem _ (List.mem_append_right _ h)) (by decide +kernel))
set_option maxRecDepth 20000 in
theorem gX7_order_X7_keeps : GoodIn wsX7_order (wsV RX7 91 RX7 yX7_keeps wsX7_keeps) := goodIn_app (goodIn_of _ (by decide +kernel)) ggX7_order_X7_keeps
set_option maxRecDepth 20000 in
theorem ggX7_order_X7_orders : GoodIn wsX7_order wsX7_orders := goodIn_ca (goodIn_r _ [15, 16, 17, 18, 4, 19, 6, 20, 21, 22, 23, 24, 25, 26, 27, 28, 29, 30, 8, 31, 32, 33, 34, 35, 36, 37, 38, 45, 46, 47, 48, 49, 50, 51, 52, 53, 54, 55, 56, 57, 58, 59, 60, 61, 62, 63, 64] (by decide +kernel) (by decide +kernel)) (goodIn_sub (fun _ h => List.mem_cons_of_mem _ (List.mem_append_right _ h)) (by decide +kernel))
set_option maxRecDepth 20000 in
theorem gX7_order_X7_orders : GoodIn wsX7_order (wsV RX7 116 RX7 yX7_orders wsX7_orders) := goodIn_app (goodIn_of _ (by decide +kernel)) ggX7_order_X7_orders
set_option maxRecDepth 20000 in
theorem ggX7_order_X7_ends : GoodIn wsX7_order wsX7_ends := goodIn_ca (goodIn_r _ [42, 8, 43, 44, 7, 9, 10, 4, 11, 45, 46, 47, 48, 49, 50, 51, 52, 53, 54, 55, 56, 57, 58, 59, 60, 61, 62, 63, 64] (by decide +kernel) (by decide +kernel)) (goodIn_sub (fun _ h => List.mem_cons_of_mem _ (List.mem_append_right _ h)) (by decide +kernel))
set_option maxRecDepth 20000 in
theorem gX7_order_X7_ends : GoodIn wsX7_order (wsV RX7 98 RX7 yX7_ends wsX7_ends) := goodIn_app (goodIn_of _ (by decide +kernel)) ggX7_order_X7_ends
set_option maxRecDepth 20000 in
theorem ggX7_cancels_X7_isPlough : GoodIn wsX7_cancels wsX7_isPlough := goodIn_ca (goodIn_r _ [5, 6, 7, 8, 4, 9, 23, 24, 25, 26, 27, 28, 29, 30, 31, 32, 33, 34, 35, 36, 37, 38, 39, 40, 41, 42] (by decide +kernel) (by decide +kernel)) (goodIn_sub (fun _ h => List.mem_cons_of_mem _ (List.mem_append_right _ h)) (by decide +kernel))
set_option maxRecDepth 20000 in
theorem gX7_cancels_X7_isPlough : GoodIn wsX7_cancels (wsV RX7 107 RX7 yX7_isPlough wsX7_isPlough) := goodIn_app (goodIn_of _ (by decide +kernel)) ggX7_cancels_X7_isPlough
set_option maxRecDepth 20000 in
theorem ggX7_cancels_X7_isThrown : GoodIn wsX7_cancels wsX7_isThrown := goodIn_r _ [13, 14, 23, 24, 25, 26, 27, 28, 29, 30, 31, 32, 33, 34, 35, 36, 37, 38, 39, 40, 41, 42] (by decide +kernel) (by decide +kernel)
set_option maxRecDepth 20000 in
theorem gX7_cancels_X7_isThrown : GoodIn wsX7_cancels (wsV RX7 79 RX7 yX7_isThrown wsX7_isThrown) := goodIn_app (goodIn_of _ (by decide +kernel)) ggX7_cancels_X7_isThrown
set_option maxRecDepth 20000 in
theorem ggX7_cancels_X7_ofPlough : GoodIn wsX7_cancels wsX7_ofPlough := goodIn_ca (goodIn_r _ [18, 6, 23, 24, 25, 26, 27, 28, 29, 30, 31, 32, 33, 34, 35, 36, 37, 38, 39, 40, 41, 42] (by decide +kernel) (by decide +kernel)) (goodIn_sub (fun _ h => List.mem_cons_of_mem _ (List.mem_append_right _ h)) (by decide +kernel))
set_option maxRecDepth 20000 in
theorem gX7_cancels_X7_ofPlough : GoodIn wsX7_cancels (wsV RX7 113 RX7 yX7_ofPlough wsX7_ofPlough) := goodIn_app (goodIn_of _ (by decide +kernel)) ggX7_cancels_X7_ofPlough
set_option maxRecDepth 20000 in
theorem ggX7_cancels_X7_setsPlough : GoodIn wsX7_cancels wsX7_setsPlough := goodIn_ca (goodIn_r _ [22, 6, 23, 24, 25, 26, 27, 28, 29, 30, 31, 32, 33, 34, 35, 36, 37, 38, 39, 40, 41, 42] (by decide +kernel) (by decide +kernel)) (goodIn_sub (fun _ h => List.mem_cons_of_mem _ (List.mem_append_right _ h)) (by decide +kernel))
set_option maxRecDepth 20000 in
theorem gX7_cancels_X7_setsPlough : GoodIn wsX7_cancels (wsV RX7 101 RX7 yX7_setsPlough wsX7_setsPlough) := goodIn_app (goodIn_of _ (by decide +kernel)) ggX7_cancels_X7_setsPlough
set_option maxRecDepth 20000 in
theorem ggX7_cancelOrder_X7_keeps : GoodIn wsX7_cancelOrder wsX7_keeps := goodIn_ca (goodIn_r _ [5, 6, 7, 8, 9, 10, 4, 11, 41, 42, 43, 44, 45, 46, 47, 48, 49, 50, 51, 52, 53, 54, 55, 56, 57, 58, 59, 60] (by decide +kernel) (by decide +kernel)) (goodIn_sub (fun _ h => List.mem_cons_of_mem _ (List.mem_append_right _ h)) (by decide +kernel))
set_option maxRecDepth 20000 in
theorem gX7_cancelOrder_X7_keeps : GoodIn wsX7_cancelOrder (wsV RX7 91 RX7 yX7_keeps wsX7_keeps) := goodIn_app (goodIn_of _ (by decide +kernel)) ggX7_cancelOrder_X7_keeps
set_option maxRecDepth 20000 in
theorem ggX7_cancelOrder_X7_cancels : GoodIn wsX7_cancelOrder wsX7_cancels := goodIn_ca (goodIn_r _ [15, 16, 17, 18, 4, 19, 6, 20, 21, 22, 23, 24, 25, 26, 8, 27, 28, 29, 30, 31, 32, 33, 34, 41, 42, 43, 44, 45, 46, 47, 48, 49, 50, 51, 52, 53, 54, 55, 56, 57, 58, 59, 60] (by decide +kernel) (by decide +kernel)) (goodIn_sub (fun _ h => List.mem_cons_of_mem _ (List.mem_append_right _ h)) (by decide +kernel))
set_option maxRecDepth 20000 in
theorem gX7_cancelOrder_X7_cancels : GoodIn wsX7_cancelOrder (wsV RX7 119 RX7 yX7_cancels wsX7_cancels) := goodIn_app (goodIn_of _ (by decide +kernel)) ggX7_cancelOrder_X7_cancels
set_option maxRecDepth 20000 in
theorem ggX7_cancelOrder_X7_ends : GoodIn wsX7_cancelOrder wsX7_ends := goodIn_ca (goodIn_r _ [38, 8, 39, 40, 7, 9, 10, 4, 11, 41, 42, 43, 44, 45, 46, 47, 48, 49, 50, 51, 52, 53, 54, 55, 56, 57, 58, 59, 60] (by decide +kernel) (by decide +kernel)) (goodIn_sub (fun _ h => List.mem_cons_of_mem _ (List.mem_append_right _ h)) (by decide +kernel))
set_option maxRecDepth 20000 in
theorem gX7_cancelOrder_X7_ends : GoodIn wsX7_cancelOrder (wsV RX7 98 RX7 yX7_ends wsX7_ends) := goodIn_app (goodIn_of _ (by decide +kernel)) ggX7_cancelOrder_X7_ends
set_option maxRecDepth 20000 in
theorem ggX7_salts_X7_isStreet : GoodIn wsX7_salts wsX7_isStreet := goodIn_ca (goodIn_r _ [6, 1, 7, 8, 5, 9, 27, 28, 29, 30, 31, 32, 33, 34, 35, 36, 37, 38, 39, 40, 41, 42, 43, 44, 45, 46] (by decide +kernel) (by decide +kernel)) (goodIn_sub (fun _ h => List.mem_cons_of_mem _ (List.mem_append_right _ h)) (by decide +kernel))
set_option maxRecDepth 20000 in
theorem gX7_salts_X7_isStreet : GoodIn wsX7_salts (wsV RX7 110 RX7 yX7_isStreet wsX7_isStreet) := goodIn_app (goodIn_of _ (by decide +kernel)) ggX7_salts_X7_isStreet
set_option maxRecDepth 20000 in
theorem ggX7_salts_X7_isThrown : GoodIn wsX7_salts wsX7_isThrown := goodIn_r _ [13, 14, 27, 28, 29, 30, 31, 32, 33, 34, 35, 36, 37, 38, 39, 40, 41, 42, 43, 44, 45, 46] (by decide +kernel) (by decide +kernel)
set_option maxRecDepth 20000 in
theorem gX7_salts_X7_isThrown : GoodIn wsX7_salts (wsV RX7 79 RX7 yX7_isThrown wsX7_isThrown) := goodIn_app (goodIn_of _ (by decide +kernel)) ggX7_salts_X7_isThrown
set_option maxRecDepth 20000 in
theorem ggX7_salts_X7_salted : GoodIn wsX7_salts wsX7_salted := goodIn_ca (goodIn_r _ [18, 1, 19, 20, 21, 5, 22, 27, 28, 29, 30, 31, 32, 33, 34, 35, 36, 37, 38, 39, 40, 41, 42, 43, 44, 45, 46] (by decide +kernel) (by decide +kernel)) (goodIn_sub (fun _ h => List.mem_cons_of_mem _ (List.mem_append_right _ h)) (by decide +kernel))
set_option maxRecDepth 20000 in
theorem gX7_salts_X7_salted : GoodIn wsX7_salts (wsV RX7 122 RX7 yX7_salted wsX7_salted) := goodIn_app (goodIn_of _ (by decide +kernel)) ggX7_salts_X7_salted
set_option maxRecDepth 20000 in
theorem ggX7_salts_X7_of : GoodIn wsX7_salts wsX7_of := goodIn_ca (goodIn_r _ [22, 1, 27, 28, 29, 30, 31, 32, 33, 34, 35, 36, 37, 38, 39, 40, 41, 42, 43, 44, 45, 46] (by decide +kernel) (by decide +kernel)) (goodIn_sub (fun _ h => List.mem_cons_of_mem _ (List.mem_append_right _ h)) (by decide +kernel))
set_option maxRecDepth 20000 in
theorem gX7_salts_X7_of : GoodIn wsX7_salts (wsV RX7 61 RX7 yX7_of wsX7_of) := goodIn_app (goodIn_of _ (by decide +kernel)) ggX7_salts_X7_of
set_option maxRecDepth 20000 in
theorem ggX7_salts_X7_sets : GoodIn wsX7_salts wsX7_sets := goodIn_ca (goodIn_r _ [26, 1, 27, 28, 29, 30, 31, 32, 33, 34, 35, 36, 37, 38, 39, 40, 41, 42, 43, 44, 45, 46] (by decide +kernel) (by decide +kernel)) (goodIn_sub (fun _ h => List.mem_cons_of_mem _ (List.mem_append_right _ h)) (by decide +kernel))
set_option maxRecDepth 20000 in
theorem gX7_salts_X7_sets : GoodIn wsX7_salts (wsV RX7 87 RX7 yX7_sets wsX7_sets) := goodIn_app (goodIn_of _ (by decide +kernel)) ggX7_salts_X7_sets
set_option maxRecDepth 20000 in
theorem ggX7_salt_X7_keeps : GoodIn wsX7_salt wsX7_keeps := goodIn_ca (goodIn_r _ [5, 6, 7, 8, 9, 10, 4, 11, 45, 46, 47, 48, 49, 50, 51, 52, 53, 54, 55, 56, 57, 58, 59, 60, 61, 62, 63, 64] (by decide +kernel) (by decide +kernel)) (goodIn_sub (fun _ h => List.mem_cons_of_mem _ (List.mem_append_right _ h)) (by decide +kernel))
set_option maxRecDepth 20000 in
theorem gX7_salt_X7_keeps : GoodIn wsX7_salt (wsV RX7 91 RX7 yX7_keeps wsX7_keeps) := goodIn_app (goodIn_of _ (by decide +kernel)) ggX7_salt_X7_keeps
set_option maxRecDepth 20000 in
theorem ggX7_salt_X7_salts : GoodIn wsX7_salt wsX7_salts := goodIn_ca (goodIn_r _ [15, 6, 16, 17, 18, 4, 19, 20, 21, 22, 23, 24, 25, 26, 8, 27, 28, 29, 30, 31, 32, 33, 34, 35, 36, 37, 38, 45, 46, 47, 48, 49, 50, 51, 52, 53, 54, 55, 56, 57, 58, 59, 60, 61, 62, 63, 64] (by decide +kernel) (by decide +kernel)) (goodIn_sub (fun _ h => List.mem_cons_of_mem _ (List.mem_append_right _ h)) (by decide +kernel))
set_option maxRecDepth 20000 in
theorem gX7_salt_X7_salts : GoodIn wsX7_salt (wsV RX7 125 RX7 yX7_salts wsX7_salts) := goodIn_app (goodIn_of _ (by decide +kernel)) ggX7_salt_X7_salts
set_option maxRecDepth 20000 in
theorem ggX7_salt_X7_ends : GoodIn wsX7_salt wsX7_ends := goodIn_ca (goodIn_r _ [42, 8, 43, 44, 7, 9, 10, 4, 11, 45, 46, 47, 48, 49, 50, 51, 52, 53, 54, 55, 56, 57, 58, 59, 60, 61, 62, 63, 64] (by decide +kernel) (by decide +kernel)) (goodIn_sub (fun _ h => List.mem_cons_of_mem _ (List.mem_append_right _ h)) (by decide +kernel))
set_option maxRecDepth 20000 in
theorem gX7_salt_X7_ends : GoodIn wsX7_salt (wsV RX7 98 RX7 yX7_ends wsX7_ends) := goodIn_app (goodIn_of _ (by decide +kernel)) ggX7_salt_X7_ends
set_option maxRecDepth 20000 in
theorem ggX7_loads_X7_isIn : GoodIn wsX7_loads wsX7_isIn := goodIn_r _ [5] (by decide +kernel) (by decide +kernel)
set_option maxRecDepth 20000 in
theorem gX7_loads_X7_isIn : GoodIn wsX7_loads (va_wsS RX7 57 yX7_isIn wsX7_isIn) := goodIn_app (goodIn_of _ (by decide +kernel)) ggX7_loads_X7_isIn
set_option maxRecDepth 20000 in
theorem ggX7_loads_X7_isThrown : GoodIn wsX7_loads wsX7_isThrown := goodIn_r _ [9, 10, 11, 12, 13, 14, 15, 16, 17, 18, 19, 20, 21, 22, 23, 24, 25, 26, 27, 28, 29, 30] (by decide +kernel) (by decide +kernel)
set_option maxRecDepth 20000 in
theorem gX7_loads_X7_isThrown : GoodIn wsX7_loads (wsV RX7 79 RX7 yX7_isThrown wsX7_isThrown) := goodIn_app (goodIn_of _ (by decide +kernel)) ggX7_loads_X7_isThrown
set_option maxRecDepth 20000 in
theorem ggX7_loadSalt_X7_keeps : GoodIn wsX7_loadSalt wsX7_keeps := goodIn_ca (goodIn_r _ [5, 6, 7, 8, 9, 10, 4, 11, 29, 30, 31, 32, 33, 34, 35, 36, 37, 38, 39, 40, 41, 42, 43, 44, 45, 46, 47, 48] (by decide +kernel) (by decide +kernel)) (goodIn_sub (fun _ h => List.mem_cons_of_mem _ (List.mem_append_right _ h)) (by decide +kernel))
set_option maxRecDepth 20000 in
theorem gX7_loadSalt_X7_keeps : GoodIn wsX7_loadSalt (wsV RX7 91 RX7 yX7_keeps wsX7_keeps) := goodIn_app (goodIn_of _ (by decide +kernel)) ggX7_loadSalt_X7_keeps
set_option maxRecDepth 20000 in
theorem ggX7_loadSalt_X7_loads : GoodIn wsX7_loadSalt wsX7_loads := goodIn_ca (goodIn_r _ [15, 6, 16, 17, 4, 18, 19, 20, 21, 22, 8, 29, 30, 31, 32, 33, 34, 35, 36, 37, 38, 39, 40, 41, 42, 43, 44, 45, 46, 47, 48] (by decide +kernel) (by decide +kernel)) (goodIn_sub (fun _ h => List.mem_cons_of_mem _ (List.mem_append_right _ h)) (by decide +kernel))
set_option maxRecDepth 20000 in
theorem gX7_loadSalt_X7_loads : GoodIn wsX7_loadSalt (wsV RX7 128 RX7 yX7_loads wsX7_loads) := goodIn_app (goodIn_of _ (by decide +kernel)) ggX7_loadSalt_X7_loads
set_option maxRecDepth 20000 in
theorem ggX7_loadSalt_X7_ends : GoodIn wsX7_loadSalt wsX7_ends := goodIn_ca (goodIn_r _ [26, 8, 27, 28, 7, 9, 10, 4, 11, 29, 30, 31, 32, 33, 34, 35, 36, 37, 38, 39, 40, 41, 42, 43, 44, 45, 46, 47, 48] (by decide +kernel) (by decide +kernel)) (goodIn_sub (fun _ h => List.mem_cons_of_mem _ (List.mem_append_right _ h)) (by decide +kernel))
set_option maxRecDepth 20000 in
theorem gX7_loadSalt_X7_ends : GoodIn wsX7_loadSalt (wsV RX7 98 RX7 yX7_ends wsX7_ends) := goodIn_app (goodIn_of _ (by decide +kernel)) ggX7_loadSalt_X7_ends
set_option maxRecDepth 20000 in
theorem ggX7_tells_X7_isIn : GoodIn wsX7_tells wsX7_isIn := goodIn_r _ [5] (by decide +kernel) (by decide +kernel)
set_option maxRecDepth 20000 in
theorem gX7_tells_X7_isIn : GoodIn wsX7_tells (va_wsS RX7 57 yX7_isIn wsX7_isIn) := goodIn_app (goodIn_of _ (by decide +kernel)) ggX7_tells_X7_isIn
set_option maxRecDepth 20000 in
theorem ggX7_tells_X7_isThrown : GoodIn wsX7_tells wsX7_isThrown := goodIn_r _ [9, 10, 11, 12, 13, 14, 15, 16, 17, 18, 19, 20, 21, 22, 23, 24, 25, 26, 27, 28, 29, 30] (by decide +kernel) (by decide +kernel)
set_option maxRecDepth 20000 in
theorem gX7_tells_X7_isThrown : GoodIn wsX7_tells (wsV RX7 79 RX7 yX7_isThrown wsX7_isThrown) := goodIn_app (goodIn_of _ (by decide +kernel)) ggX7_tells_X7_isThrown
set_option maxRecDepth 20000 in
theorem ggX7_setSnowfall_X7_keeps : GoodIn wsX7_setSnowfall wsX7_keeps := goodIn_ca (goodIn_r _ [5, 6, 7, 8, 9, 10, 4, 11, 29, 30, 31, 32, 33, 34, 35, 36, 37, 38, 39, 40, 41, 42, 43, 44, 45, 46, 47, 48] (by decide +kernel) (by decide +kernel)) (goodIn_sub (fun _ h => List.mem_cons_of_mem _ (List.mem_append_right _ h)) (by decide +kernel))
set_option maxRecDepth 20000 in
theorem gX7_setSnowfall_X7_keeps : GoodIn wsX7_setSnowfall (wsV RX7 91 RX7 yX7_keeps wsX7_keeps) := goodIn_app (goodIn_of _ (by decide +kernel)) ggX7_setSnowfall_X7_keeps
set_option maxRecDepth 20000 in
theorem ggX7_setSnowfall_X7_tells : GoodIn wsX7_setSnowfall wsX7_tells := goodIn_ca (goodIn_r _ [15, 6, 16, 17, 4, 18, 19, 20, 21, 22, 8, 29, 30, 31, 32, 33, 34, 35, 36, 37, 38, 39, 40, 41, 42, 43, 44, 45, 46, 47, 48] (by decide +kernel) (by decide +kernel)) (goodIn_sub (fun _ h => List.mem_cons_of_mem _ (List.mem_append_right _ h)) (by decide +kernel))
set_option maxRecDepth 20000 in
theorem gX7_setSnowfall_X7_tells : GoodIn wsX7_setSnowfall (wsV RX7 131 RX7 yX7_tells wsX7_tells) := goodIn_app (goodIn_of _ (by decide +kernel)) ggX7_setSnowfall_X7_tells
set_option maxRecDepth 20000 in
theorem ggX7_setSnowfall_X7_ends : GoodIn wsX7_setSnowfall wsX7_ends := goodIn_ca (goodIn_r _ [26, 8, 27, 28, 7, 9, 10, 4, 11, 29, 30, 31, 32, 33, 34, 35, 36, 37, 38, 39, 40, 41, 42, 43, 44, 45, 46, 47, 48] (by decide +kernel) (by decide +kernel)) (goodIn_sub (fun _ h => List.mem_cons_of_mem _ (List.mem_append_right _ h)) (by decide +kernel))
set_option maxRecDepth 20000 in
theorem gX7_setSnowfall_X7_ends : GoodIn wsX7_setSnowfall (wsV RX7 98 RX7 yX7_ends wsX7_ends) := goodIn_app (goodIn_of _ (by decide +kernel)) ggX7_setSnowfall_X7_ends
set_option maxRecDepth 20000 in
theorem ggX7_setWind_X7_keeps : GoodIn wsX7_setWind wsX7_keeps := goodIn_ca (goodIn_r _ [5, 6, 7, 8, 9, 10, 4, 11, 29, 30, 31, 32, 33, 34, 35, 36, 37, 38, 39, 40, 41, 42, 43, 44, 45, 46, 47, 48] (by decide +kernel) (by decide +kernel)) (goodIn_sub (fun _ h => List.mem_cons_of_mem _ (List.mem_append_right _ h)) (by decide +kernel))
set_option maxRecDepth 20000 in
theorem gX7_setWind_X7_keeps : GoodIn wsX7_setWind (wsV RX7 91 RX7 yX7_keeps wsX7_keeps) := goodIn_app (goodIn_of _ (by decide +kernel)) ggX7_setWind_X7_keeps
set_option maxRecDepth 20000 in
theorem ggX7_setWind_X7_tells : GoodIn wsX7_setWind wsX7_tells := goodIn_ca (goodIn_r _ [15, 6, 16, 17, 4, 18, 19, 20, 21, 22, 8, 29, 30, 31, 32, 33, 34, 35, 36, 37, 38, 39, 40, 41, 42, 43, 44, 45, 46, 47, 48] (by decide +kernel) (by decide +kernel)) (goodIn_sub (fun _ h => List.mem_cons_of_mem _ (List.mem_append_right _ h)) (by decide +kernel))
set_option maxRecDepth 20000 in
theorem gX7_setWind_X7_tells : GoodIn wsX7_setWind (wsV RX7 131 RX7 yX7_tells wsX7_tells) := goodIn_app (goodIn_of _ (by decide +kernel)) ggX7_setWind_X7_tells
set_option maxRecDepth 20000 in
theorem ggX7_setWind_X7_ends : GoodIn wsX7_setWind wsX7_ends := goodIn_ca (goodIn_r _ [26, 8, 27, 28, 7, 9, 10, 4, 11, 29, 30, 31, 32, 33, 34, 35, 36, 37, 38, 39, 40, 41, 42, 43, 44, 45, 46, 47, 48] (by decide +kernel) (by decide +kernel)) (goodIn_sub (fun _ h => List.mem_cons_of_mem _ (List.mem_append_right _ h)) (by decide +kernel))
set_option maxRecDepth 20000 in
theorem gX7_setWind_X7_ends : GoodIn wsX7_setWind (wsV RX7 98 RX7 yX7_ends wsX7_ends) := goodIn_app (goodIn_of _ (by decide +kernel)) ggX7_setWind_X7_ends
set_option maxRecDepth 20000 in
theorem ggX7_finds_X7_of : GoodIn wsX7_finds wsX7_of := goodIn_ca (goodIn_r _ [7, 2, 11, 12, 13, 14, 15, 16, 17, 18, 19, 20, 21, 22, 23, 24, 25, 26, 27, 28, 29, 30] (by decide +kernel) (by decide +kernel)) (goodIn_sub (fun _ h => List.mem_cons_of_mem _ (List.mem_append_right _ h)) (by decide +kernel))
set_option maxRecDepth 20000 in
theorem gX7_finds_X7_of : GoodIn wsX7_finds (wsV RX7 61 RX7 yX7_of wsX7_of) := goodIn_app (goodIn_of _ (by decide +kernel)) ggX7_finds_X7_of
set_option maxRecDepth 20000 in
theorem ggX7_finds_X7_lesser : GoodIn wsX7_finds wsX7_lesser := goodIn_r _ [10] (by decide +kernel) (by decide +kernel)
set_option maxRecDepth 20000 in
theorem gX7_finds_X7_lesser : GoodIn wsX7_finds (va_wsS RX7 69 yX7_lesser wsX7_lesser) := goodIn_app (goodIn_of _ (by decide +kernel)) ggX7_finds_X7_lesser
set_option maxRecDepth 20000 in
theorem ggX7_minutes_X7_finds : GoodIn wsX7_minutes wsX7_finds := goodIn_ca (goodIn_r _ [6, 1, 7, 8, 9, 10, 5, 11, 12, 13, 14, 15, 16, 17, 18, 19, 20, 21, 22, 23, 24, 25, 26, 27, 28, 29, 30, 31, 32, 33, 34] (by decide +kernel) (by decide +kernel)) (goodIn_sub (fun _ h => List.mem_cons_of_mem _ (List.mem_append_right _ h)) (by decide +kernel))
set_option maxRecDepth 20000 in
theorem gX7_minutes_X7_finds : GoodIn wsX7_minutes (wsV RX7 134 RX7 yX7_finds wsX7_finds) := goodIn_app (goodIn_of _ (by decide +kernel)) ggX7_minutes_X7_finds
set_option maxRecDepth 20000 in
theorem ggX7_minutes_X7_of : GoodIn wsX7_minutes wsX7_of := goodIn_ca (goodIn_r _ [11, 7, 15, 16, 17, 18, 19, 20, 21, 22, 23, 24, 25, 26, 27, 28, 29, 30, 31, 32, 33, 34] (by decide +kernel) (by decide +kernel)) (goodIn_sub (fun _ h => List.mem_cons_of_mem _ (List.mem_append_right _ h)) (by decide +kernel))
set_option maxRecDepth 20000 in
theorem gX7_minutes_X7_of : GoodIn wsX7_minutes (wsV RX7 61 RX7 yX7_of wsX7_of) := goodIn_app (goodIn_of _ (by decide +kernel)) ggX7_minutes_X7_of
set_option maxRecDepth 20000 in
theorem ggX7_minutes_X7_lesser : GoodIn wsX7_minutes wsX7_lesser := goodIn_r _ [14] (by decide +kernel) (by decide +kernel)
set_option maxRecDepth 20000 in
theorem gX7_minutes_X7_lesser : GoodIn wsX7_minutes (va_wsS RX7 69 yX7_lesser wsX7_lesser) := goodIn_app (goodIn_of _ (by decide +kernel)) ggX7_minutes_X7_lesser
set_option maxRecDepth 20000 in
theorem ggX7_takes_X7_ofPlough : GoodIn wsX7_takes wsX7_ofPlough := goodIn_ca (goodIn_r _ [7, 1, 27, 28, 29, 30, 31, 32, 33, 34, 35, 36, 37, 38, 39, 40, 41, 42, 43, 44, 45, 46] (by decide +kernel) (by decide +kernel)) (goodIn_sub (fun _ h => List.mem_cons_of_mem _ (List.mem_append_right _ h)) (by decide +kernel))
set_option maxRecDepth 20000 in
theorem gX7_takes_X7_ofPlough : GoodIn wsX7_takes (wsV RX7 113 RX7 yX7_ofPlough wsX7_ofPlough) := goodIn_app (goodIn_of _ (by decide +kernel)) ggX7_takes_X7_ofPlough
set_option maxRecDepth 20000 in
theorem ggX7_takes_X7_setsPlough : GoodIn wsX7_takes wsX7_setsPlough := goodIn_ca (goodIn_r _ [11, 1, 27, 28, 29, 30, 31, 32, 33, 34, 35, 36, 37, 38, 39, 40, 41, 42, 43, 44, 45, 46] (by decide +kernel) (by decide +kernel)) (goodIn_sub (fun _ h => List.mem_cons_of_mem _ (List.mem_append_right _ h)) (by decide +kernel))
set_option maxRecDepth 20000 in
theorem gX7_takes_X7_setsPlough : GoodIn wsX7_takes (wsV RX7 101 RX7 yX7_setsPlough wsX7_setsPlough) := goodIn_app (goodIn_of _ (by decide +kernel)) ggX7_takes_X7_setsPlough
set_option maxRecDepth 20000 in
theorem ggX7_takes_X7_minutes : GoodIn wsX7_takes wsX7_minutes := goodIn_ca (goodIn_r _ [15, 2, 16, 17, 18, 6, 19, 1, 20, 21, 22, 23, 24, 25, 26, 27, 28, 29, 30, 31, 32, 33, 34, 35, 36, 37, 38, 39, 40, 41, 42, 43, 44, 45, 46] (by decide +kernel) (by decide +kernel)) (goodIn_sub (fun _ h => List.mem_cons_of_mem _ (List.mem_append_right _ h)) (by decide +kernel))
set_option maxRecDepth 20000 in
theorem gX7_takes_X7_minutes : GoodIn wsX7_takes (wsV RX7 138 RX7 yX7_minutes wsX7_minutes) := goodIn_app (goodIn_of _ (by decide +kernel)) ggX7_takes_X7_minutes
set_option maxRecDepth 20000 in
theorem ggX7_takes_X7_of : GoodIn wsX7_takes wsX7_of := goodIn_ca (goodIn_r _ [23, 1, 27, 28, 29, 30, 31, 32, 33, 34, 35, 36, 37, 38, 39, 40, 41, 42, 43, 44, 45, 46] (by decide +kernel) (by decide +kernel)) (goodIn_sub (fun _ h => List.mem_cons_of_mem _ (List.mem_append_right _ h)) (by decide +kernel))
set_option maxRecDepth 20000 in
theorem gX7_takes_X7_of : GoodIn wsX7_takes (wsV RX7 61 RX7 yX7_of wsX7_of) := goodIn_app (goodIn_of _ (by decide +kernel)) ggX7_takes_X7_of
set_option maxRecDepth 20000 in
theorem ggX7_clears_X7_ofPlough : GoodIn wsX7_clears wsX7_ofPlough := goodIn_ca (goodIn_r _ [6, 1, 19, 20, 21, 22, 23, 24, 25, 26, 27, 28, 29, 30, 31, 32, 33, 34, 35, 36, 37, 38] (by decide +kernel) (by decide +kernel)) (goodIn_sub (fun _ h => List.mem_cons_of_mem _ (List.mem_append_right _ h)) (by decide +kernel))
set_option maxRecDepth 20000 in
theorem gX7_clears_X7_ofPlough : GoodIn wsX7_clears (wsV RX7 113 RX7 yX7_ofPlough wsX7_ofPlough) := goodIn_app (goodIn_of _ (by decide +kernel)) ggX7_clears_X7_ofPlough
set_option maxRecDepth 20000 in
theorem ggX7_clears_X7_of : GoodIn wsX7_clears wsX7_of := goodIn_ca (goodIn_r _ [10, 1, 19, 20, 21, 22, 23, 24, 25, 26, 27, 28, 29, 30, 31, 32, 33, 34, 35, 36, 37, 38] (by decide +kernel) (by decide +kernel)) (goodIn_sub (fun _ h => List.mem_cons_of_mem _ (List.mem_append_right _ h)) (by decide +kernel))
set_option maxRecDepth 20000 in
theorem gX7_clears_X7_of : GoodIn wsX7_clears (wsV RX7 61 RX7 yX7_of wsX7_of) := goodIn_app (goodIn_of _ (by decide +kernel)) ggX7_clears_X7_of
set_option maxRecDepth 20000 in
theorem ggX7_clears_X7_sets : GoodIn wsX7_clears wsX7_sets := goodIn_ca (goodIn_r _ [14, 1, 19, 20, 21, 22, 23, 24, 25, 26, 27, 28, 29, 30, 31, 32, 33, 34, 35, 36, 37, 38] (by decide +kernel) (by decide +kernel)) (goodIn_sub (fun _ h => List.mem_cons_of_mem _ (List.mem_append_right _ h)) (by decide +kernel))
set_option maxRecDepth 20000 in
theorem gX7_clears_X7_sets : GoodIn wsX7_clears (wsV RX7 87 RX7 yX7_sets wsX7_sets) := goodIn_app (goodIn_of _ (by decide +kernel)) ggX7_clears_X7_sets
set_option maxRecDepth 20000 in
theorem ggX7_clears_X7_setsPlough : GoodIn wsX7_clears wsX7_setsPlough := goodIn_ca (goodIn_r _ [18, 1, 19, 20, 21, 22, 23, 24, 25, 26, 27, 28, 29, 30, 31, 32, 33, 34, 35, 36, 37, 38] (by decide +kernel) (by decide +kernel)) (goodIn_sub (fun _ h => List.mem_cons_of_mem _ (List.mem_append_right _ h)) (by decide +kernel))
set_option maxRecDepth 20000 in
theorem gX7_clears_X7_setsPlough : GoodIn wsX7_clears (wsV RX7 101 RX7 yX7_setsPlough wsX7_setsPlough) := goodIn_app (goodIn_of _ (by decide +kernel)) ggX7_clears_X7_setsPlough
set_option maxRecDepth 20000 in
theorem ggX7_ploughMinute_X7_ofPlough : GoodIn wsX7_ploughMinute wsX7_ofPlough := goodIn_ca (goodIn_r _ [5, 6, 39, 40, 41, 42, 43, 44, 45, 46, 47, 48, 49, 50, 51, 52, 53, 54, 55, 56, 57, 58] (by decide +kernel) (by decide +kernel)) (goodIn_sub (fun _ h => List.mem_cons_of_mem _ (List.mem_append_right _ h)) (by decide +kernel))
set_option maxRecDepth 20000 in
theorem gX7_ploughMinute_X7_ofPlough : GoodIn wsX7_ploughMinute (wsV RX7 113 RX7 yX7_ofPlough wsX7_ofPlough) := goodIn_app (goodIn_of _ (by decide +kernel)) ggX7_ploughMinute_X7_ofPlough
set_option maxRecDepth 20000 in
theorem ggX7_ploughMinute_X7_takes : GoodIn wsX7_ploughMinute wsX7_takes := goodIn_ca (goodIn_r _ [10, 6, 11, 1, 2, 3, 4, 5, 12, 13, 14, 15, 16, 17, 18, 19, 20, 21, 22, 23, 24, 25, 26, 27, 28, 29, 30, 39, 40, 41, 42, 43, 44, 45, 46, 47, 48, 49, 50, 51, 52, 53, 54, 55, 56, 57, 58] (by decide +kernel) (by decide +kernel)) (goodIn_sub (fun _ h => List.mem_cons_of_mem _ (List.mem_append_right _ h)) (by decide +kernel))
set_option maxRecDepth 20000 in
theorem gX7_ploughMinute_X7_takes : GoodIn wsX7_ploughMinute (wsV RX7 141 RX7 yX7_takes wsX7_takes) := goodIn_app (goodIn_of _ (by decide +kernel)) ggX7_ploughMinute_X7_takes
set_option maxRecDepth 20000 in
theorem ggX7_ploughMinute_X7_setsPlough : GoodIn wsX7_ploughMinute wsX7_setsPlough := goodIn_ca (goodIn_r _ [15, 6, 39, 40, 41, 42, 43, 44, 45, 46, 47, 48, 49, 50, 51, 52, 53, 54, 55, 56, 57, 58] (by decide +kernel) (by decide +kernel)) (goodIn_sub (fun _ h => List.mem_cons_of_mem _ (List.mem_append_right _ h)) (by decide +kernel))
set_option maxRecDepth 20000 in
theorem gX7_ploughMinute_X7_setsPlough : GoodIn wsX7_ploughMinute (wsV RX7 101 RX7 yX7_setsPlough wsX7_setsPlough) := goodIn_app (goodIn_of _ (by decide +kernel)) ggX7_ploughMinute_X7_setsPlough
set_option maxRecDepth 20000 in
theorem ggX7_ploughMinute_X7_clears : GoodIn wsX7_ploughMinute wsX7_clears := goodIn_ca (goodIn_r _ [34, 6, 1, 2, 3, 4, 5, 24, 25, 26, 27, 35, 36, 37, 38, 12, 13, 14, 15, 39, 40, 41, 42, 43, 44, 45, 46, 47, 48, 49, 50, 51, 52, 53, 54, 55, 56, 57, 58] (by decide +kernel) (by decide +kernel)) (goodIn_sub (fun _ h => List.mem_cons_of_mem _ (List.mem_append_right _ h)) (by decide +kernel))
set_option maxRecDepth 20000 in
theorem gX7_ploughMinute_X7_clears : GoodIn wsX7_ploughMinute (wsV RX7 144 RX7 yX7_clears wsX7_clears) := goodIn_app (goodIn_of _ (by decide +kernel)) ggX7_ploughMinute_X7_clears
set_option maxRecDepth 20000 in
theorem ggX7_drifts_X7_of : GoodIn wsX7_drifts wsX7_of := goodIn_ca (goodIn_r _ [7, 1, 15, 16, 17, 18, 19, 20, 21, 22, 23, 24, 25, 26, 27, 28, 29, 30, 31, 32, 33, 34] (by decide +kernel) (by decide +kernel)) (goodIn_sub (fun _ h => List.mem_cons_of_mem _ (List.mem_append_right _ h)) (by decide +kernel))
set_option maxRecDepth 20000 in
theorem gX7_drifts_X7_of : GoodIn wsX7_drifts (wsV RX7 61 RX7 yX7_of wsX7_of) := goodIn_app (goodIn_of _ (by decide +kernel)) ggX7_drifts_X7_of
set_option maxRecDepth 20000 in
theorem ggX7_drifts_X7_lesser : GoodIn wsX7_drifts wsX7_lesser := goodIn_r _ [10] (by decide +kernel) (by decide +kernel)
set_option maxRecDepth 20000 in
theorem gX7_drifts_X7_lesser : GoodIn wsX7_drifts (va_wsS RX7 69 yX7_lesser wsX7_lesser) := goodIn_app (goodIn_of _ (by decide +kernel)) ggX7_drifts_X7_lesser
set_option maxRecDepth 20000 in
theorem ggX7_drifts_X7_sets : GoodIn wsX7_drifts wsX7_sets := goodIn_ca (goodIn_r _ [14, 1, 15, 16, 17, 18, 19, 20, 21, 22, 23, 24, 25, 26, 27, 28, 29, 30, 31, 32, 33, 34] (by decide +kernel) (by decide +kernel)) (goodIn_sub (fun _ h => List.mem_cons_of_mem _ (List.mem_append_right _ h)) (by decide +kernel))
set_option maxRecDepth 20000 in
theorem gX7_drifts_X7_sets : GoodIn wsX7_drifts (wsV RX7 87 RX7 yX7_sets wsX7_sets) := goodIn_app (goodIn_of _ (by decide +kernel)) ggX7_drifts_X7_sets
set_option maxRecDepth 20000 in
theorem ggX7_hourEnds_X7_of : GoodIn wsX7_hourEnds wsX7_of := goodIn_ca (goodIn_r _ [6, 1, 31, 32, 33, 34, 35, 36, 37, 38, 39, 40, 41, 42, 43, 44, 45, 46, 47, 48, 49, 50] (by decide +kernel) (by decide +kernel)) (goodIn_sub (fun _ h => List.mem_cons_of_mem _ (List.mem_append_right _ h)) (by decide +kernel))
set_option maxRecDepth 20000 in
theorem gX7_hourEnds_X7_of : GoodIn wsX7_hourEnds (wsV RX7 61 RX7 yX7_of wsX7_of) := goodIn_app (goodIn_of _ (by decide +kernel)) ggX7_hourEnds_X7_of
set_option maxRecDepth 20000 in
theorem ggX7_hourEnds_X7_lesser : GoodIn wsX7_hourEnds wsX7_lesser := goodIn_r _ [9] (by decide +kernel) (by decide +kernel)
set_option maxRecDepth 20000 in
theorem gX7_hourEnds_X7_lesser : GoodIn wsX7_hourEnds (va_wsS RX7 69 yX7_lesser wsX7_lesser) := goodIn_app (goodIn_of _ (by decide +kernel)) ggX7_hourEnds_X7_lesser
set_option maxRecDepth 20000 in
theorem ggX7_hourEnds_X7_salted : GoodIn wsX7_hourEnds wsX7_salted := goodIn_ca (goodIn_r _ [13, 1, 2, 3, 4, 5, 6, 31, 32, 33, 34, 35, 36, 37, 38, 39, 40, 41, 42, 43, 44, 45, 46, 47, 48, 49, 50] (by decide +kernel) (by decide +kernel)) (goodIn_sub (fun _ h => List.mem_cons_of_mem _ (List.mem_append_right _ h)) (by decide +kernel))
set_option maxRecDepth 20000 in
theorem gX7_hourEnds_X7_salted : GoodIn wsX7_hourEnds (wsV RX7 122 RX7 yX7_salted wsX7_salted) := goodIn_app (goodIn_of _ (by decide +kernel)) ggX7_hourEnds_X7_salted
set_option maxRecDepth 20000 in
theorem ggX7_hourEnds_X7_sets : GoodIn wsX7_hourEnds wsX7_sets := goodIn_ca (goodIn_r _ [17, 1, 31, 32, 33, 34, 35, 36, 37, 38, 39, 40, 41, 42, 43, 44, 45, 46, 47, 48, 49, 50] (by decide +kernel) (by decide +kernel)) (goodIn_sub (fun _ h => List.mem_cons_of_mem _ (List.mem_append_right _ h)) (by decide +kernel))
set_option maxRecDepth 20000 in
theorem gX7_hourEnds_X7_sets : GoodIn wsX7_hourEnds (wsV RX7 87 RX7 yX7_sets wsX7_sets) := goodIn_app (goodIn_of _ (by decide +kernel)) ggX7_hourEnds_X7_sets
set_option maxRecDepth 20000 in
theorem ggX7_hourEnds_X7_drifts : GoodIn wsX7_hourEnds wsX7_drifts := goodIn_ca (goodIn_r _ [21, 1, 22, 2, 3, 4, 5, 6, 7, 8, 9, 14, 15, 16, 17, 31, 32, 33, 34, 35, 36, 37, 38, 39, 40, 41, 42, 43, 44, 45, 46, 47, 48, 49, 50] (by decide +kernel) (by decide +kernel)) (goodIn_sub (fun _ h => List.mem_cons_of_mem _ (List.mem_append_right _ h)) (by decide +kernel))
set_option maxRecDepth 20000 in
theorem gX7_hourEnds_X7_drifts : GoodIn wsX7_hourEnds (wsV RX7 147 RX7 yX7_drifts wsX7_drifts) := goodIn_app (goodIn_of _ (by decide +kernel)) ggX7_hourEnds_X7_drifts
set_option maxRecDepth 20000 in
theorem ggX7_hourEnds_X7_overdue : GoodIn wsX7_hourEnds wsX7_overdue := goodIn_ca (goodIn_r _ [26, 2, 3, 4, 5, 6, 1, 27, 28, 29, 30, 31, 32, 33, 34, 35, 36, 37, 38, 39, 40, 41, 42, 43, 44, 45, 46, 47, 48, 49, 50] (by decide +kernel) (by decide +kernel)) (goodIn_sub (fun _ h => List.mem_cons_of_mem _ (List.mem_append_right _ h)) (by decide +kernel))
set_option maxRecDepth 20000 in
theorem gX7_hourEnds_X7_overdue : GoodIn wsX7_hourEnds (wsV RX7 150 RX7 yX7_overdue wsX7_overdue) := goodIn_app (goodIn_of _ (by decide +kernel)) ggX7_hourEnds_X7_overdue
set_option maxRecDepth 20000 in
theorem ggX7_minutePasses_X7_ploughMinute : GoodIn wsX7_minutePasses wsX7_ploughMinute := goodIn_ca (goodIn_r _ [6, 7, 8, 9, 5, 10, 1, 11, 12, 13, 14, 15, 16, 17, 18, 19, 20, 21, 22, 23, 24, 25, 26, 27, 28, 29, 30, 31, 32, 33, 34, 35, 36, 37, 38, 39, 40, 41, 42, 64, 65, 66, 67, 68, 69, 70, 71, 72, 73, 74, 75, 76, 77, 78, 79, 80, 81, 82, 83] (by decide +kernel) (by decide +kernel)) (goodIn_sub (fun _ h => List.mem_cons_of_mem _ (List.mem_append_right _ h)) (by decide +kernel))
set_option maxRecDepth 20000 in
theorem gX7_minutePasses_X7_ploughMinute : GoodIn wsX7_minutePasses (wsV RX7 153 RX7 yX7_ploughMinute wsX7_ploughMinute) := goodIn_app (goodIn_of _ (by decide +kernel)) ggX7_minutePasses_X7_ploughMinute
set_option maxRecDepth 20000 in
theorem ggX7_minutePasses_X7_hourEnds : GoodIn wsX7_minutePasses wsX7_hourEnds := goodIn_ca (goodIn_r _ [46, 1, 28, 29, 30, 5, 31, 32, 33, 34, 47, 48, 49, 50, 39, 40, 41, 42, 51, 52, 53, 54, 55, 56, 57, 58, 59, 60, 61, 62, 63, 64, 65, 66, 67, 68, 69, 70, 71, 72, 73, 74, 75, 76, 77, 78, 79, 80, 81, 82, 83] (by decide +kernel) (by decide +kernel)) (goodIn_sub (fun _ h => List.mem_cons_of_mem _ (List.mem_append_right _ h)) (by decide +kernel))
set_option maxRecDepth 20000 in
theorem gX7_minutePasses_X7_hourEnds : GoodIn wsX7_minutePasses (wsV RX7 156 RX7 yX7_hourEnds wsX7_hourEnds) := goodIn_app (goodIn_of _ (by decide +kernel)) ggX7_minutePasses_X7_hourEnds
set_option maxRecDepth 20000 in
theorem ggX7_waits_X7_isIn : GoodIn wsX7_waits wsX7_isIn := goodIn_r _ [6] (by decide +kernel) (by decide +kernel)
set_option maxRecDepth 20000 in
theorem gX7_waits_X7_isIn : GoodIn wsX7_waits (va_wsS RX7 57 yX7_isIn wsX7_isIn) := goodIn_app (goodIn_of _ (by decide +kernel)) ggX7_waits_X7_isIn
set_option maxRecDepth 20000 in
theorem ggX7_waits_X7_isThrown : GoodIn wsX7_waits wsX7_isThrown := goodIn_r _ [10, 11, 77, 78, 79, 80, 81, 82, 83, 84, 85, 86, 87, 88, 89, 90, 91, 92, 93, 94, 95, 96] (by decide +kernel) (by decide +kernel)
set_option maxRecDepth 20000 in
theorem gX7_waits_X7_isThrown : GoodIn wsX7_waits (wsV RX7 79 RX7 yX7_isThrown wsX7_isThrown) := goodIn_app (goodIn_of _ (by decide +kernel)) ggX7_waits_X7_isThrown
set_option maxRecDepth 20000 in
theorem ggX7_waits_X7_minutePasses : GoodIn wsX7_waits wsX7_minutePasses := goodIn_ca (goodIn_r _ [15, 1, 16, 17, 18, 5, 19, 20, 21, 22, 23, 24, 25, 26, 27, 28, 29, 30, 31, 32, 33, 34, 35, 36, 37, 38, 39, 40, 41, 42, 43, 44, 45, 46, 47, 48, 49, 50, 51, 52, 53, 54, 55, 56, 57, 58, 59, 60, 61, 62, 63, 64, 65, 66, 67, 68, 69, 70, 71, 72, 73, 74, 75, 76, 77, 78, 79, 80, 81, 82, 83, 84, 85, 86, 87, 88, 89, 90, 91, 92, 93, 94, 95, 96] (by decide +kernel) (by decide +kernel)) (goodIn_sub (fun _ h => List.mem_cons_of_mem _ (List.mem_append_right _ h)) (by decide +kernel))
set_option maxRecDepth 20000 in
theorem gX7_waits_X7_minutePasses : GoodIn wsX7_waits (wsV RX7 159 RX7 yX7_minutePasses wsX7_minutePasses) := goodIn_app (goodIn_of _ (by decide +kernel)) ggX7_waits_X7_minutePasses
set_option maxRecDepth 20000 in
theorem ggX7_advance_X7_keeps : GoodIn wsX7_advance wsX7_keeps := goodIn_ca (goodIn_r _ [5, 6, 7, 8, 9, 10, 4, 11, 95, 96, 97, 98, 99, 100, 101, 102, 103, 104, 105, 106, 107, 108, 109, 110, 111, 112, 113, 114] (by decide +kernel) (by decide +kernel)) (goodIn_sub (fun _ h => List.mem_cons_of_mem _ (List.mem_append_right _ h)) (by decide +kernel))
set_option maxRecDepth 20000 in
theorem gX7_advance_X7_keeps : GoodIn wsX7_advance (wsV RX7 91 RX7 yX7_keeps wsX7_keeps) := goodIn_app (goodIn_of _ (by decide +kernel)) ggX7_advance_X7_keeps
set_option maxRecDepth 20000 in
theorem ggX7_advance_X7_waits : GoodIn wsX7_advance wsX7_waits := goodIn_ca (goodIn_r _ [15, 6, 16, 17, 18, 4, 19, 20, 21, 22, 23, 8, 24, 25, 26, 27, 28, 29, 30, 31, 32, 33, 34, 35, 36, 37, 38, 39, 40, 41, 42, 43, 44, 45, 46, 47, 48, 49, 50, 51, 52, 53, 54, 55, 56, 57, 58, 59, 60, 61, 62, 63, 64, 65, 66, 67, 68, 69, 70, 71, 72, 73, 74, 75, 76, 77, 78, 79, 80, 81, 82, 83, 84, 85, 86, 87, 88, 95, 96, 97, 98, 99, 100, 101, 102, 103, 104, 105, 106, 107, 108, 109, 110, 111, 112, 113, 114] (by decide +kernel) (by decide +kernel)) (goodIn_sub (fun _ h => List.mem_cons_of_mem _ (List.mem_append_right _ h)) (by decide +kernel))
set_option maxRecDepth 20000 in
theorem gX7_advance_X7_waits : GoodIn wsX7_advance (wsV RX7 165 RX7 yX7_waits wsX7_waits) := goodIn_app (goodIn_of _ (by decide +kernel)) ggX7_advance_X7_waits
set_option maxRecDepth 20000 in
theorem ggX7_advance_X7_ends : GoodIn wsX7_advance wsX7_ends := goodIn_ca (goodIn_r _ [92, 8, 93, 94, 7, 9, 10, 4, 11, 95, 96, 97, 98, 99, 100, 101, 102, 103, 104, 105, 106, 107, 108, 109, 110, 111, 112, 113, 114] (by decide +kernel) (by decide +kernel)) (goodIn_sub (fun _ h => List.mem_cons_of_mem _ (List.mem_append_right _ h)) (by decide +kernel))
set_option maxRecDepth 20000 in
theorem gX7_advance_X7_ends : GoodIn wsX7_advance (wsV RX7 98 RX7 yX7_ends wsX7_ends) := goodIn_app (goodIn_of _ (by decide +kernel)) ggX7_advance_X7_ends
set_option maxRecDepth 20000 in
theorem ggX7_ofStreet_X7_isStreet : GoodIn wsX7_ofStreet wsX7_isStreet := goodIn_ca (goodIn_r _ [5, 6, 7, 8, 4, 9, 19, 20, 21, 22, 23, 24, 25, 26, 27, 28, 29, 30, 31, 32, 33, 34, 35, 36, 37, 38] (by decide +kernel) (by decide +kernel)) (goodIn_sub (fun _ h => List.mem_cons_of_mem _ (List.mem_append_right _ h)) (by decide +kernel))
set_option maxRecDepth 20000 in
theorem gX7_ofStreet_X7_isStreet : GoodIn wsX7_ofStreet (wsV RX7 110 RX7 yX7_isStreet wsX7_isStreet) := goodIn_app (goodIn_of _ (by decide +kernel)) ggX7_ofStreet_X7_isStreet
set_option maxRecDepth 20000 in
theorem ggX7_ofStreet_X7_isThrown : GoodIn wsX7_ofStreet wsX7_isThrown := goodIn_r _ [13, 14, 19, 20, 21, 22, 23, 24, 25, 26, 27, 28, 29, 30, 31, 32, 33, 34, 35, 36, 37, 38] (by decide +kernel) (by decide +kernel)
set_option maxRecDepth 20000 in
theorem gX7_ofStreet_X7_isThrown : GoodIn wsX7_ofStreet (wsV RX7 79 RX7 yX7_isThrown wsX7_isThrown) := goodIn_app (goodIn_of _ (by decide +kernel)) ggX7_ofStreet_X7_isThrown
set_option maxRecDepth 20000 in
theorem ggX7_ofStreet_X7_of : GoodIn wsX7_ofStreet wsX7_of := goodIn_ca (goodIn_r _ [18, 6, 19, 20, 21, 22, 23, 24, 25, 26, 27, 28, 29, 30, 31, 32, 33, 34, 35, 36, 37, 38] (by decide +kernel) (by decide +kernel)) (goodIn_sub (fun _ h => List.mem_cons_of_mem _ (List.mem_append_right _ h)) (by decide +kernel))
set_option maxRecDepth 20000 in
theorem gX7_ofStreet_X7_of : GoodIn wsX7_ofStreet (wsV RX7 61 RX7 yX7_of wsX7_of) := goodIn_app (goodIn_of _ (by decide +kernel)) ggX7_ofStreet_X7_of
set_option maxRecDepth 20000 in
theorem ggX7_lowerEnd_X7_ofStreet : GoodIn wsX7_lowerEnd wsX7_ofStreet := goodIn_ca (goodIn_r _ [5, 6, 7, 8, 4, 9, 10, 11, 12, 13, 14, 15, 16, 17, 18, 19, 20, 21, 22, 23, 24, 25, 26, 27, 28, 29, 30, 31, 32, 33, 34, 35, 36, 37, 38, 39, 40, 41, 42] (by decide +kernel) (by decide +kernel)) (goodIn_sub (fun _ h => List.mem_cons_of_mem _ (List.mem_append_right _ h)) (by decide +kernel))
set_option maxRecDepth 20000 in
theorem gX7_lowerEnd_X7_ofStreet : GoodIn wsX7_lowerEnd (wsV RX7 168 RX7 yX7_ofStreet wsX7_ofStreet) := goodIn_app (goodIn_of _ (by decide +kernel)) ggX7_lowerEnd_X7_ofStreet
set_option maxRecDepth 20000 in
theorem ggX7_higherEnd_X7_ofStreet : GoodIn wsX7_higherEnd wsX7_ofStreet := goodIn_ca (goodIn_r _ [5, 6, 7, 8, 4, 9, 10, 11, 12, 13, 14, 15, 16, 17, 18, 19, 20, 21, 22, 23, 24, 25, 26, 27, 28, 29, 30, 31, 32, 33, 34, 35, 36, 37, 38, 39, 40, 41, 42] (by decide +kernel) (by decide +kernel)) (goodIn_sub (fun _ h => List.mem_cons_of_mem _ (List.mem_append_right _ h)) (by decide +kernel))
set_option maxRecDepth 20000 in
theorem gX7_higherEnd_X7_ofStreet : GoodIn wsX7_higherEnd (wsV RX7 168 RX7 yX7_ofStreet wsX7_ofStreet) := goodIn_app (goodIn_of _ (by decide +kernel)) ggX7_higherEnd_X7_ofStreet
set_option maxRecDepth 20000 in
theorem ggX7_streetClass_X7_ofStreet : GoodIn wsX7_streetClass wsX7_ofStreet := goodIn_ca (goodIn_r _ [5, 6, 7, 8, 4, 9, 10, 11, 12, 13, 14, 15, 16, 17, 18, 19, 20, 21, 22, 23, 24, 25, 26, 27, 28, 29, 30, 31, 32, 33, 34, 35, 36, 37, 38, 39, 40, 41, 42] (by decide +kernel) (by decide +kernel)) (goodIn_sub (fun _ h => List.mem_cons_of_mem _ (List.mem_append_right _ h)) (by decide +kernel))
set_option maxRecDepth 20000 in
theorem gX7_streetClass_X7_ofStreet : GoodIn wsX7_streetClass (wsV RX7 168 RX7 yX7_ofStreet wsX7_ofStreet) := goodIn_app (goodIn_of _ (by decide +kernel)) ggX7_streetClass_X7_ofStreet
set_option maxRecDepth 20000 in
theorem ggX7_length_X7_ofStreet : GoodIn wsX7_length wsX7_ofStreet := goodIn_ca (goodIn_r _ [5, 6, 7, 8, 4, 9, 10, 11, 12, 13, 14, 15, 16, 17, 18, 19, 20, 21, 22, 23, 24, 25, 26, 27, 28, 29, 30, 31, 32, 33, 34, 35, 36, 37, 38, 39, 40, 41, 42] (by decide +kernel) (by decide +kernel)) (goodIn_sub (fun _ h => List.mem_cons_of_mem _ (List.mem_append_right _ h)) (by decide +kernel))
set_option maxRecDepth 20000 in
theorem gX7_length_X7_ofStreet : GoodIn wsX7_length (wsV RX7 168 RX7 yX7_ofStreet wsX7_ofStreet) := goodIn_app (goodIn_of _ (by decide +kernel)) ggX7_length_X7_ofStreet
set_option maxRecDepth 20000 in
theorem ggX7_depth_X7_ofStreet : GoodIn wsX7_depth wsX7_ofStreet := goodIn_ca (goodIn_r _ [5, 6, 7, 8, 4, 9, 10, 11, 12, 13, 14, 15, 16, 17, 18, 19, 20, 21, 22, 23, 24, 25, 26, 27, 28, 29, 30, 31, 32, 33, 34, 35, 36, 37, 38, 39, 40, 41, 42] (by decide +kernel) (by decide +kernel)) (goodIn_sub (fun _ h => List.mem_cons_of_mem _ (List.mem_append_right _ h)) (by decide +kernel))
set_option maxRecDepth 20000 in
theorem gX7_depth_X7_ofStreet : GoodIn wsX7_depth (wsV RX7 168 RX7 yX7_ofStreet wsX7_ofStreet) := goodIn_app (goodIn_of _ (by decide +kernel)) ggX7_depth_X7_ofStreet
set_option maxRecDepth 20000 in
theorem ggX7_isOverdue_X7_isStreet : GoodIn wsX7_isOverdue wsX7_isStreet := goodIn_ca (goodIn_r _ [5, 6, 7, 8, 4, 9, 27, 28, 29, 30, 31, 32, 33, 34, 35, 36, 37, 38, 39, 40, 41, 42, 43, 44, 45, 46] (by decide +kernel) (by decide +kernel)) (goodIn_sub (fun _ h => List.mem_cons_of_mem _ (List.mem_append_right _ h)) (by decide +kernel))
set_option maxRecDepth 20000 in
theorem gX7_isOverdue_X7_isStreet : GoodIn wsX7_isOverdue (wsV RX7 110 RX7 yX7_isStreet wsX7_isStreet) := goodIn_app (goodIn_of _ (by decide +kernel)) ggX7_isOverdue_X7_isStreet
set_option maxRecDepth 20000 in
theorem ggX7_isOverdue_X7_isThrown : GoodIn wsX7_isOverdue wsX7_isThrown := goodIn_r _ [13, 14, 27, 28, 29, 30, 31, 32, 33, 34, 35, 36, 37, 38, 39, 40, 41, 42, 43, 44, 45, 46] (by decide +kernel) (by decide +kernel)
set_option maxRecDepth 20000 in
theorem gX7_isOverdue_X7_isThrown : GoodIn wsX7_isOverdue (wsV RX7 79 RX7 yX7_isThrown wsX7_isThrown) := goodIn_app (goodIn_of _ (by decide +kernel)) ggX7_isOverdue_X7_isThrown
set_option maxRecDepth 20000 in
theorem ggX7_isOverdue_X7_overdue : GoodIn wsX7_isOverdue wsX7_overdue := goodIn_ca (goodIn_r _ [18, 19, 20, 21, 4, 22, 6, 23, 24, 25, 26, 27, 28, 29, 30, 31, 32, 33, 34, 35, 36, 37, 38, 39, 40, 41, 42, 43, 44, 45, 46] (by decide +kernel) (by decide +kernel)) (goodIn_sub (fun _ h => List.mem_cons_of_mem _ (List.mem_append_right _ h)) (by decide +kernel))
set_option maxRecDepth 20000 in
theorem gX7_isOverdue_X7_overdue : GoodIn wsX7_isOverdue (wsV RX7 150 RX7 yX7_overdue wsX7_overdue) := goodIn_app (goodIn_of _ (by decide +kernel)) ggX7_isOverdue_X7_overdue
set_option maxRecDepth 20000 in
theorem ggX7_isSalted_X7_isStreet : GoodIn wsX7_isSalted wsX7_isStreet := goodIn_ca (goodIn_r _ [5, 6, 7, 8, 4, 9, 23, 24, 25, 26, 27, 28, 29, 30, 31, 32, 33, 34, 35, 36, 37, 38, 39, 40, 41, 42] (by decide +kernel) (by decide +kernel)) (goodIn_sub (fun _ h => List.mem_cons_of_mem _ (List.mem_append_right _ h)) (by decide +kernel))
set_option maxRecDepth 20000 in
theorem gX7_isSalted_X7_isStreet : GoodIn wsX7_isSalted (wsV RX7 110 RX7 yX7_isStreet wsX7_isStreet) := goodIn_app (goodIn_of _ (by decide +kernel)) ggX7_isSalted_X7_isStreet
set_option maxRecDepth 20000 in
theorem ggX7_isSalted_X7_isThrown : GoodIn wsX7_isSalted wsX7_isThrown := goodIn_r _ [13, 14, 23, 24, 25, 26, 27, 28, 29, 30, 31, 32, 33, 34, 35, 36, 37, 38, 39, 40, 41, 42] (by decide +kernel) (by decide +kernel)
set_option maxRecDepth 20000 in
theorem gX7_isSalted_X7_isThrown : GoodIn wsX7_isSalted (wsV RX7 79 RX7 yX7_isThrown wsX7_isThrown) := goodIn_app (goodIn_of _ (by decide +kernel)) ggX7_isSalted_X7_isThrown
set_option maxRecDepth 20000 in
theorem ggX7_isSalted_X7_salted : GoodIn wsX7_isSalted wsX7_salted := goodIn_ca (goodIn_r _ [18, 6, 19, 20, 21, 4, 22, 23, 24, 25, 26, 27, 28, 29, 30, 31, 32, 33, 34, 35, 36, 37, 38, 39, 40, 41, 42] (by decide +kernel) (by decide +kernel)) (goodIn_sub (fun _ h => List.mem_cons_of_mem _ (List.mem_append_right _ h)) (by decide +kernel))
set_option maxRecDepth 20000 in
theorem gX7_isSalted_X7_salted : GoodIn wsX7_isSalted (wsV RX7 122 RX7 yX7_salted wsX7_salted) := goodIn_app (goodIn_of _ (by decide +kernel)) ggX7_isSalted_X7_salted
set_option maxRecDepth 20000 in
theorem ggX7_saltMinutes_X7_isStreet : GoodIn wsX7_saltMinutes wsX7_isStreet := goodIn_ca (goodIn_r _ [6, 1, 7, 8, 5, 9, 23, 24, 25, 26, 27, 28, 29, 30, 31, 32, 33, 34, 35, 36, 37, 38, 39, 40, 41, 42] (by decide +kernel) (by decide +kernel)) (goodIn_sub (fun _ h => List.mem_cons_of_mem _ (List.mem_append_right _ h)) (by decide +kernel))
set_option maxRecDepth 20000 in
theorem gX7_saltMinutes_X7_isStreet : GoodIn wsX7_saltMinutes (wsV RX7 110 RX7 yX7_isStreet wsX7_isStreet) := goodIn_app (goodIn_of _ (by decide +kernel)) ggX7_saltMinutes_X7_isStreet
set_option maxRecDepth 20000 in
theorem ggX7_saltMinutes_X7_isThrown : GoodIn wsX7_saltMinutes wsX7_isThrown := goodIn_r _ [13, 14, 23, 24, 25, 26, 27, 28, 29, 30, 31, 32, 33, 34, 35, 36, 37, 38, 39, 40, 41, 42] (by decide +kernel) (by decide +kernel)
set_option maxRecDepth 20000 in
theorem gX7_saltMinutes_X7_isThrown : GoodIn wsX7_saltMinutes (wsV RX7 79 RX7 yX7_isThrown wsX7_isThrown) := goodIn_app (goodIn_of _ (by decide +kernel)) ggX7_saltMinutes_X7_isThrown
set_option maxRecDepth 20000 in
theorem ggX7_saltMinutes_X7_salted : GoodIn wsX7_saltMinutes wsX7_salted := goodIn_ca (goodIn_r _ [18, 1, 19, 20, 21, 5, 22, 23, 24, 25, 26, 27, 28, 29, 30, 31, 32, 33, 34, 35, 36, 37, 38, 39, 40, 41, 42] (by decide +kernel) (by decide +kernel)) (goodIn_sub (fun _ h => List.mem_cons_of_mem _ (List.mem_append_right _ h)) (by decide +kernel))
set_option maxRecDepth 20000 in
theorem gX7_saltMinutes_X7_salted : GoodIn wsX7_saltMinutes (wsV RX7 122 RX7 yX7_salted wsX7_salted) := goodIn_app (goodIn_of _ (by decide +kernel)) ggX7_saltMinutes_X7_salted
set_option maxRecDepth 20000 in
theorem ggX7_saltMinutes_X7_of : GoodIn wsX7_saltMinutes wsX7_of := goodIn_ca (goodIn_r _ [22, 1, 23, 24, 25, 26, 27, 28, 29, 30, 31, 32, 33, 34, 35, 36, 37, 38, 39, 40, 41, 42] (by decide +kernel) (by decide +kernel)) (goodIn_sub (fun _ h => List.mem_cons_of_mem _ (List.mem_append_right _ h)) (by decide +kernel))
set_option maxRecDepth 20000 in
theorem gX7_saltMinutes_X7_of : GoodIn wsX7_saltMinutes (wsV RX7 61 RX7 yX7_of wsX7_of) := goodIn_app (goodIn_of _ (by decide +kernel)) ggX7_saltMinutes_X7_of
set_option maxRecDepth 20000 in
theorem ggX7_complaints_X7_ofStreet : GoodIn wsX7_complaints wsX7_ofStreet := goodIn_ca (goodIn_r _ [5, 6, 7, 8, 4, 9, 10, 11, 12, 13, 14, 15, 16, 17, 18, 19, 20, 21, 22, 23, 24, 25, 26, 27, 28, 29, 30, 31, 32, 33, 34, 35, 36, 37, 38, 39, 40, 41, 42] (by decide +kernel) (by decide +kernel)) (goodIn_sub (fun _ h => List.mem_cons_of_mem _ (List.mem_append_right _ h)) (by decide +kernel))
set_option maxRecDepth 20000 in
theorem gX7_complaints_X7_ofStreet : GoodIn wsX7_complaints (wsV RX7 168 RX7 yX7_ofStreet wsX7_ofStreet) := goodIn_app (goodIn_of _ (by decide +kernel)) ggX7_complaints_X7_ofStreet
set_option maxRecDepth 20000 in
theorem ggX7_distance_X7_isJunction : GoodIn wsX7_distance wsX7_isJunction := goodIn_r _ [5, 6, 7, 4, 8] (by decide +kernel) (by decide +kernel)
set_option maxRecDepth 20000 in
theorem gX7_distance_X7_isJunction : GoodIn wsX7_distance (va_wsS RX7 75 yX7_isJunction wsX7_isJunction) := goodIn_app (goodIn_of _ (by decide +kernel)) ggX7_distance_X7_isJunction
set_option maxRecDepth 20000 in
theorem ggX7_distance_X7_isThrown : GoodIn wsX7_distance wsX7_isThrown := goodIn_r _ [12, 13, 26, 27, 28, 29, 30, 31, 32, 33, 34, 35, 36, 37, 38, 39, 40, 41, 42, 43, 44, 45] (by decide +kernel) (by decide +kernel)
set_option maxRecDepth 20000 in
theorem gX7_distance_X7_isThrown : GoodIn wsX7_distance (wsV RX7 79 RX7 yX7_isThrown wsX7_isThrown) := goodIn_app (goodIn_of _ (by decide +kernel)) ggX7_distance_X7_isThrown
set_option maxRecDepth 20000 in
theorem ggX7_distance_X7_finds : GoodIn wsX7_distance wsX7_finds := goodIn_ca (goodIn_r _ [17, 1, 18, 19, 20, 21, 4, 22, 23, 24, 25, 26, 27, 28, 29, 30, 31, 32, 33, 34, 35, 36, 37, 38, 39, 40, 41, 42, 43, 44, 45] (by decide +kernel) (by decide +kernel)) (goodIn_sub (fun _ h => List.mem_cons_of_mem _ (List.mem_append_right _ h)) (by decide +kernel))
set_option maxRecDepth 20000 in
theorem gX7_distance_X7_finds : GoodIn wsX7_distance (wsV RX7 134 RX7 yX7_finds wsX7_finds) := goodIn_app (goodIn_of _ (by decide +kernel)) ggX7_distance_X7_finds
set_option maxRecDepth 20000 in
theorem ggX7_distanceByJunctions_X7_distance : GoodIn wsX7_distanceByJunctions wsX7_distance := goodIn_ca (goodIn_r _ [5, 6, 7, 8, 4, 9, 10, 11, 12, 13, 14, 15, 16, 17, 18, 19, 20, 21, 22, 23, 24, 25, 26, 27, 28, 29, 30, 31, 32, 33, 34, 35, 36, 37, 38, 39, 40, 41, 42, 43, 44, 45, 46, 47, 48, 49] (by decide +kernel) (by decide +kernel)) (goodIn_sub (fun _ h => List.mem_cons_of_mem _ (List.mem_append_right _ h)) (by decide +kernel))
set_option maxRecDepth 20000 in
theorem gX7_distanceByJunctions_X7_distance : GoodIn wsX7_distanceByJunctions (wsV RX7 171 RX7 yX7_distance wsX7_distance) := goodIn_app (goodIn_of _ (by decide +kernel)) ggX7_distanceByJunctions_X7_distance
set_option maxRecDepth 20000 in
theorem ggX7_isAhead_X7_of : GoodIn wsX7_isAhead wsX7_of := goodIn_ca (goodIn_r _ [5, 6, 11, 12, 13, 14, 15, 16, 17, 18, 19, 20, 21, 22, 23, 24, 25, 26, 27, 28, 29, 30] (by decide +kernel) (by decide +kernel)) (goodIn_sub (fun _ h => List.mem_cons_of_mem _ (List.mem_append_right _ h)) (by decide +kernel))
set_option maxRecDepth 20000 in
theorem gX7_isAhead_X7_of : GoodIn wsX7_isAhead (wsV RX7 61 RX7 yX7_of wsX7_of) := goodIn_app (goodIn_of _ (by decide +kernel)) ggX7_isAhead_X7_of
set_option maxRecDepth 20000 in
theorem ggX7_isAhead_X7_limit : GoodIn wsX7_isAhead wsX7_limit := goodIn_ca (goodIn_r _ [10, 1, 2, 3, 4, 5, 6, 11, 12, 13, 14, 15, 16, 17, 18, 19, 20, 21, 22, 23, 24, 25, 26, 27, 28, 29, 30] (by decide +kernel) (by decide +kernel)) (goodIn_sub (fun _ h => List.mem_cons_of_mem _ (List.mem_append_right _ h)) (by decide +kernel))
set_option maxRecDepth 20000 in
theorem gX7_isAhead_X7_limit : GoodIn wsX7_isAhead (wsV RX7 65 RX7 yX7_limit wsX7_limit) := goodIn_app (goodIn_of _ (by decide +kernel)) ggX7_isAhead_X7_limit
set_option maxRecDepth 20000 in
theorem ggX7_streetByUrgency_X7_isAhead : GoodIn wsX7_streetByUrgency wsX7_isAhead := goodIn_ca (goodIn_r _ [7, 8, 9, 10, 6, 11, 1, 12, 13, 14, 15, 16, 17, 18, 19, 20, 21, 22, 23, 24, 25, 26, 27, 28, 29, 30, 31, 32, 33, 34, 35] (by decide +kernel) (by decide +kernel)) (goodIn_sub (fun _ h => List.mem_cons_of_mem _ (List.mem_append_right _ h)) (by decide +kernel))
set_option maxRecDepth 20000 in
theorem gX7_streetByUrgency_X7_isAhead : GoodIn wsX7_streetByUrgency (wsV RX7 174 RX7 yX7_isAhead wsX7_isAhead) := goodIn_app (goodIn_of _ (by decide +kernel)) ggX7_streetByUrgency_X7_isAhead
set_option maxRecDepth 20000 in
theorem ggX7_tellsPlough_X7_isPlough : GoodIn wsX7_tellsPlough wsX7_isPlough := goodIn_ca (goodIn_r _ [5, 6, 7, 8, 4, 9, 19, 20, 21, 22, 23, 24, 25, 26, 27, 28, 29, 30, 31, 32, 33, 34, 35, 36, 37, 38] (by decide +kernel) (by decide +kernel)) (goodIn_sub (fun _ h => List.mem_cons_of_mem _ (List.mem_append_right _ h)) (by decide +kernel))
set_option maxRecDepth 20000 in
theorem gX7_tellsPlough_X7_isPlough : GoodIn wsX7_tellsPlough (wsV RX7 107 RX7 yX7_isPlough wsX7_isPlough) := goodIn_app (goodIn_of _ (by decide +kernel)) ggX7_tellsPlough_X7_isPlough
set_option maxRecDepth 20000 in
theorem ggX7_tellsPlough_X7_isThrown : GoodIn wsX7_tellsPlough wsX7_isThrown := goodIn_r _ [13, 14, 19, 20, 21, 22, 23, 24, 25, 26, 27, 28, 29, 30, 31, 32, 33, 34, 35, 36, 37, 38] (by decide +kernel) (by decide +kernel)
set_option maxRecDepth 20000 in
theorem gX7_tellsPlough_X7_isThrown : GoodIn wsX7_tellsPlough (wsV RX7 79 RX7 yX7_isThrown wsX7_isThrown) := goodIn_app (goodIn_of _ (by decide +kernel)) ggX7_tellsPlough_X7_isThrown
set_option maxRecDepth 20000 in
theorem ggX7_tellsPlough_X7_ofPlough : GoodIn wsX7_tellsPlough wsX7_ofPlough := goodIn_ca (goodIn_r _ [18, 6, 19, 20, 21, 22, 23, 24, 25, 26, 27, 28, 29, 30, 31, 32, 33, 34, 35, 36, 37, 38] (by decide +kernel) (by decide +kernel)) (goodIn_sub (fun _ h => List.mem_cons_of_mem _ (List.mem_append_right _ h)) (by decide +kernel))
set_option maxRecDepth 20000 in
theorem gX7_tellsPlough_X7_ofPlough : GoodIn wsX7_tellsPlough (wsV RX7 113 RX7 yX7_ofPlough wsX7_ofPlough) := goodIn_app (goodIn_of _ (by decide +kernel)) ggX7_tellsPlough_X7_ofPlough
set_option maxRecDepth 20000 in
theorem ggX7_isBusy_X7_tellsPlough : GoodIn wsX7_isBusy wsX7_tellsPlough := goodIn_ca (goodIn_r _ [5, 6, 7, 8, 4, 9, 10, 11, 12, 13, 14, 15, 16, 17, 18, 19, 20, 21, 22, 23, 24, 25, 26, 27, 28, 29, 30, 31, 32, 33, 34, 35, 36, 37, 38, 39, 40, 41, 42] (by decide +kernel) (by decide +kernel)) (goodIn_sub (fun _ h => List.mem_cons_of_mem _ (List.mem_append_right _ h)) (by decide +kernel))
set_option maxRecDepth 20000 in
theorem gX7_isBusy_X7_tellsPlough : GoodIn wsX7_isBusy (wsV RX7 177 RX7 yX7_tellsPlough wsX7_tellsPlough) := goodIn_app (goodIn_of _ (by decide +kernel)) ggX7_isBusy_X7_tellsPlough
set_option maxRecDepth 20000 in
theorem ggX7_junction_X7_tellsPlough : GoodIn wsX7_junction wsX7_tellsPlough := goodIn_ca (goodIn_r _ [5, 6, 7, 8, 4, 9, 10, 11, 12, 13, 14, 15, 16, 17, 18, 19, 20, 21, 22, 23, 24, 25, 26, 27, 28, 29, 30, 31, 32, 33, 34, 35, 36, 37, 38, 39, 40, 41, 42] (by decide +kernel) (by decide +kernel)) (goodIn_sub (fun _ h => List.mem_cons_of_mem _ (List.mem_append_right _ h)) (by decide +kernel))
set_option maxRecDepth 20000 in
theorem gX7_junction_X7_tellsPlough : GoodIn wsX7_junction (wsV RX7 177 RX7 yX7_tellsPlough wsX7_tellsPlough) := goodIn_app (goodIn_of _ (by decide +kernel)) ggX7_junction_X7_tellsPlough
set_option maxRecDepth 20000 in
theorem ggX7_currentStreet_X7_isPlough : GoodIn wsX7_currentStreet wsX7_isPlough := goodIn_ca (goodIn_r _ [5, 6, 7, 8, 4, 9, 19, 20, 21, 22, 23, 24, 25, 26, 27, 28, 29, 30, 31, 32, 33, 34, 35, 36, 37, 38] (by decide +kernel) (by decide +kernel)) (goodIn_sub (fun _ h => List.mem_cons_of_mem _ (List.mem_append_right _ h)) (by decide +kernel))
set_option maxRecDepth 20000 in
theorem gX7_currentStreet_X7_isPlough : GoodIn wsX7_currentStreet (wsV RX7 107 RX7 yX7_isPlough wsX7_isPlough) := goodIn_app (goodIn_of _ (by decide +kernel)) ggX7_currentStreet_X7_isPlough
set_option maxRecDepth 20000 in
theorem ggX7_currentStreet_X7_isThrown : GoodIn wsX7_currentStreet wsX7_isThrown := goodIn_r _ [13, 14, 19, 20, 21, 22, 23, 24, 25, 26, 27, 28, 29, 30, 31, 32, 33, 34, 35, 36, 37, 38] (by decide +kernel) (by decide +kernel)
set_option maxRecDepth 20000 in
theorem gX7_currentStreet_X7_isThrown : GoodIn wsX7_currentStreet (wsV RX7 79 RX7 yX7_isThrown wsX7_isThrown) := goodIn_app (goodIn_of _ (by decide +kernel)) ggX7_currentStreet_X7_isThrown
set_option maxRecDepth 20000 in
theorem ggX7_currentStreet_X7_ofPlough : GoodIn wsX7_currentStreet wsX7_ofPlough := goodIn_ca (goodIn_r _ [18, 6, 19, 20, 21, 22, 23, 24, 25, 26, 27, 28, 29, 30, 31, 32, 33, 34, 35, 36, 37, 38] (by decide +kernel) (by decide +kernel)) (goodIn_sub (fun _ h => List.mem_cons_of_mem _ (List.mem_append_right _ h)) (by decide +kernel))
set_option maxRecDepth 20000 in
theorem gX7_currentStreet_X7_ofPlough : GoodIn wsX7_currentStreet (wsV RX7 113 RX7 yX7_ofPlough wsX7_ofPlough) := goodIn_app (goodIn_of _ (by decide +kernel)) ggX7_currentStreet_X7_ofPlough
set_option maxRecDepth 20000 in
theorem ggX7_busyMinutes_X7_tellsPlough : GoodIn wsX7_busyMinutes wsX7_tellsPlough := goodIn_ca (goodIn_r _ [5, 6, 7, 8, 4, 9, 10, 11, 12, 13, 14, 15, 16, 17, 18, 19, 20, 21, 22, 23, 24, 25, 26, 27, 28, 29, 30, 31, 32, 33, 34, 35, 36, 37, 38, 39, 40, 41, 42] (by decide +kernel) (by decide +kernel)) (goodIn_sub (fun _ h => List.mem_cons_of_mem _ (List.mem_append_right _ h)) (by decide +kernel))
set_option maxRecDepth 20000 in
theorem gX7_busyMinutes_X7_tellsPlough : GoodIn wsX7_busyMinutes (wsV RX7 177 RX7 yX7_tellsPlough wsX7_tellsPlough) := goodIn_app (goodIn_of _ (by decide +kernel)) ggX7_busyMinutes_X7_tellsPlough
set_option maxRecDepth 20000 in
theorem ggX7_queueLength_X7_tellsPlough : GoodIn wsX7_queueLength wsX7_tellsPlough := goodIn_ca (goodIn_r _ [5, 6, 7, 8, 4, 9, 10, 11, 12, 13, 14, 15, 16, 17, 18, 19, 20, 21, 22, 23, 24, 25, 26, 27, 28, 29, 30, 31, 32, 33, 34, 35, 36, 37, 38, 39, 40, 41, 42] (by decide +kernel) (by decide +kernel)) (goodIn_sub (fun _ h => List.mem_cons_of_mem _ (List.mem_append_right _ h)) (by decide +kernel))
set_option maxRecDepth 20000 in
theorem gX7_queueLength_X7_tellsPlough : GoodIn wsX7_queueLength (wsV RX7 177 RX7 yX7_tellsPlough wsX7_tellsPlough) := goodIn_app (goodIn_of _ (by decide +kernel)) ggX7_queueLength_X7_tellsPlough
set_option maxRecDepth 20000 in
theorem ggX7_queuedStreet_X7_isPlough : GoodIn wsX7_queuedStreet wsX7_isPlough := goodIn_ca (goodIn_r _ [5, 6, 7, 8, 4, 9, 19, 20, 21, 22, 23, 24, 25, 26, 27, 28, 29, 30, 31, 32, 33, 34, 35, 36, 37, 38] (by decide +kernel) (by decide +kernel)) (goodIn_sub (fun _ h => List.mem_cons_of_mem _ (List.mem_append_right _ h)) (by decide +kernel))
set_option maxRecDepth 20000 in
theorem gX7_queuedStreet_X7_isPlough : GoodIn wsX7_queuedStreet (wsV RX7 107 RX7 yX7_isPlough wsX7_isPlough) := goodIn_app (goodIn_of _ (by decide +kernel)) ggX7_queuedStreet_X7_isPlough
set_option maxRecDepth 20000 in
theorem ggX7_queuedStreet_X7_isThrown : GoodIn wsX7_queuedStreet wsX7_isThrown := goodIn_r _ [13, 14, 19, 20, 21, 22, 23, 24, 25, 26, 27, 28, 29, 30, 31, 32, 33, 34, 35, 36, 37, 38] (by decide +kernel) (by decide +kernel)
set_option maxRecDepth 20000 in
theorem gX7_queuedStreet_X7_isThrown : GoodIn wsX7_queuedStreet (wsV RX7 79 RX7 yX7_isThrown wsX7_isThrown) := goodIn_app (goodIn_of _ (by decide +kernel)) ggX7_queuedStreet_X7_isThrown
set_option maxRecDepth 20000 in
theorem ggX7_queuedStreet_X7_ofPlough : GoodIn wsX7_queuedStreet wsX7_ofPlough := goodIn_ca (goodIn_r _ [18, 6, 19, 20, 21, 22, 23, 24, 25, 26, 27, 28, 29, 30, 31, 32, 33, 34, 35, 36, 37, 38] (by decide +kernel) (by decide +kernel)) (goodIn_sub (fun _ h => List.mem_cons_of_mem _ (List.mem_append_right _ h)) (by decide +kernel))
set_option maxRecDepth 20000 in
theorem gX7_queuedStreet_X7_ofPlough : GoodIn wsX7_queuedStreet (wsV RX7 113 RX7 yX7_ofPlough wsX7_ofPlough) := goodIn_app (goodIn_of _ (by decide +kernel)) ggX7_queuedStreet_X7_ofPlough
set_option maxRecDepth 20000 in
theorem ggX7_queuedStreet_X7_isIn : GoodIn wsX7_queuedStreet wsX7_isIn := goodIn_r _ [9] (by decide +kernel) (by decide +kernel)
set_option maxRecDepth 20000 in
theorem gX7_queuedStreet_X7_isIn : GoodIn wsX7_queuedStreet (va_wsS RX7 57 yX7_isIn wsX7_isIn) := goodIn_app (goodIn_of _ (by decide +kernel)) ggX7_queuedStreet_X7_isIn
set_option maxRecDepth 20000 in
theorem ggX7_orderMinutes_X7_isPlough : GoodIn wsX7_orderMinutes wsX7_isPlough := goodIn_ca (goodIn_r _ [5, 6, 7, 8, 4, 9, 39, 40, 41, 42, 43, 44, 45, 46, 47, 48, 49, 50, 51, 52, 53, 54, 55, 56, 57, 58] (by decide +kernel) (by decide +kernel)) (goodIn_sub (fun _ h => List.mem_cons_of_mem _ (List.mem_append_right _ h)) (by decide +kernel))
set_option maxRecDepth 20000 in
theorem gX7_orderMinutes_X7_isPlough : GoodIn wsX7_orderMinutes (wsV RX7 107 RX7 yX7_isPlough wsX7_isPlough) := goodIn_app (goodIn_of _ (by decide +kernel)) ggX7_orderMinutes_X7_isPlough
set_option maxRecDepth 20000 in
theorem ggX7_orderMinutes_X7_isStreet : GoodIn wsX7_orderMinutes wsX7_isStreet := goodIn_ca (goodIn_r _ [13, 6, 7, 8, 4, 9, 39, 40, 41, 42, 43, 44, 45, 46, 47, 48, 49, 50, 51, 52, 53, 54, 55, 56, 57, 58] (by decide +kernel) (by decide +kernel)) (goodIn_sub (fun _ h => List.mem_cons_of_mem _ (List.mem_append_right _ h)) (by decide +kernel))
set_option maxRecDepth 20000 in
theorem gX7_orderMinutes_X7_isStreet : GoodIn wsX7_orderMinutes (wsV RX7 110 RX7 yX7_isStreet wsX7_isStreet) := goodIn_app (goodIn_of _ (by decide +kernel)) ggX7_orderMinutes_X7_isStreet
set_option maxRecDepth 20000 in
theorem ggX7_orderMinutes_X7_isThrown : GoodIn wsX7_orderMinutes wsX7_isThrown := goodIn_r _ [17, 18, 39, 40, 41, 42, 43, 44, 45, 46, 47, 48, 49, 50, 51, 52, 53, 54, 55, 56, 57, 58] (by decide +kernel) (by decide +kernel)
set_option maxRecDepth 20000 in
theorem gX7_orderMinutes_X7_isThrown : GoodIn wsX7_orderMinutes (wsV RX7 79 RX7 yX7_isThrown wsX7_isThrown) := goodIn_app (goodIn_of _ (by decide +kernel)) ggX7_orderMinutes_X7_isThrown
set_option maxRecDepth 20000 in
theorem ggX7_orderMinutes_X7_ofPlough : GoodIn wsX7_orderMinutes wsX7_ofPlough := goodIn_ca (goodIn_r _ [22, 6, 39, 40, 41, 42, 43, 44, 45, 46, 47, 48, 49, 50, 51, 52, 53, 54, 55, 56, 57, 58] (by decide +kernel) (by decide +kernel)) (goodIn_sub (fun _ h => List.mem_cons_of_mem _ (List.mem_append_right _ h)) (by decide +kernel))
set_option maxRecDepth 20000 in
theorem gX7_orderMinutes_X7_ofPlough : GoodIn wsX7_orderMinutes (wsV RX7 113 RX7 yX7_ofPlough wsX7_ofPlough) := goodIn_app (goodIn_of _ (by decide +kernel)) ggX7_orderMinutes_X7_ofPlough
set_option maxRecDepth 20000 in
theorem ggX7_orderMinutes_X7_minutes : GoodIn wsX7_orderMinutes wsX7_minutes := goodIn_ca (goodIn_r _ [26, 27, 28, 29, 30, 4, 31, 6, 32, 33, 34, 35, 36, 37, 38, 39, 40, 41, 42, 43, 44, 45, 46, 47, 48, 49, 50, 51, 52, 53, 54, 55, 56, 57, 58] (by decide +kernel) (by decide +kernel)) (goodIn_sub (fun _ h => List.mem_cons_of_mem _ (List.mem_append_right _ h)) (by decide +kernel))
set_option maxRecDepth 20000 in
theorem gX7_orderMinutes_X7_minutes : GoodIn wsX7_orderMinutes (wsV RX7 138 RX7 yX7_minutes wsX7_minutes) := goodIn_app (goodIn_of _ (by decide +kernel)) ggX7_orderMinutes_X7_minutes
set_option maxRecDepth 20000 in
theorem ggX7_minutesUntilCleared_X7_isStreet : GoodIn wsX7_minutesUntilCleared wsX7_isStreet := goodIn_ca (goodIn_r _ [7, 1, 8, 9, 6, 10, 84, 85, 86, 87, 88, 89, 90, 91, 92, 93, 94, 95, 96, 97, 98, 99, 100, 101, 102, 103] (by decide +kernel) (by decide +kernel)) (goodIn_sub (fun _ h => List.mem_cons_of_mem _ (List.mem_append_right _ h)) (by decide +kernel))
set_option maxRecDepth 20000 in
theorem gX7_minutesUntilCleared_X7_isStreet : GoodIn wsX7_minutesUntilCleared (wsV RX7 110 RX7 yX7_isStreet wsX7_isStreet) := goodIn_app (goodIn_of _ (by decide +kernel)) ggX7_minutesUntilCleared_X7_isStreet
set_option maxRecDepth 20000 in
theorem ggX7_minutesUntilCleared_X7_isThrown : GoodIn wsX7_minutesUntilCleared wsX7_isThrown := goodIn_r _ [14, 15, 84, 85, 86, 87, 88, 89, 90, 91, 92, 93, 94, 95, 96, 97, 98, 99, 100, 101, 102, 103] (by decide +kernel) (by decide +kernel)
set_option maxRecDepth 20000 in
theorem gX7_minutesUntilCleared_X7_isThrown : GoodIn wsX7_minutesUntilCleared (wsV RX7 79 RX7 yX7_isThrown wsX7_isThrown) := goodIn_app (goodIn_of _ (by decide +kernel)) ggX7_minutesUntilCleared_X7_isThrown
set_option maxRecDepth 20000 in
theorem ggX7_minutesUntilCleared_X7_copies : GoodIn wsX7_minutesUntilCleared wsX7_copies := goodIn_ca (goodIn_r _ [18] (by decide +kernel) (by decide +kernel)) (goodIn_sub (fun _ h => List.mem_cons_of_mem _ (List.mem_append_right _ h)) (by decide +kernel))
set_option maxRecDepth 20000 in
theorem gX7_minutesUntilCleared_X7_copies : GoodIn wsX7_minutesUntilCleared (va_wsS RX7 50 yX7_copies wsX7_copies) := goodIn_app (goodIn_of _ (by decide +kernel)) ggX7_minutesUntilCleared_X7_copies
set_option maxRecDepth 20000 in
theorem ggX7_minutesUntilCleared_X7_minutePasses : GoodIn wsX7_minutesUntilCleared wsX7_minutePasses := goodIn_ca (goodIn_r _ [22, 1, 23, 24, 25, 6, 26, 27, 28, 29, 30, 31, 32, 33, 34, 35, 36, 37, 38, 39, 40, 41, 42, 43, 44, 45, 46, 47, 48, 49, 50, 51, 52, 53, 54, 55, 56, 57, 58, 59, 60, 61, 62, 63, 64, 65, 66, 67, 68, 69, 70, 71, 72, 73, 74, 75, 76, 77, 78, 79, 80, 81, 82, 83, 84, 85, 86, 87, 88, 89, 90, 91, 92, 93, 94, 95, 96, 97, 98, 99, 100, 101, 102, 103] (by decide +kernel) (by decide +kernel)) (goodIn_sub (fun _ h => List.mem_cons_of_mem _ (List.mem_append_right _ h)) (by decide +kernel))
set_option maxRecDepth 20000 in
theorem gX7_minutesUntilCleared_X7_minutePasses : GoodIn wsX7_minutesUntilCleared (wsV RX7 159 RX7 yX7_minutePasses wsX7_minutePasses) := goodIn_app (goodIn_of _ (by decide +kernel)) ggX7_minutesUntilCleared_X7_minutePasses
set_option maxRecDepth 20000 in
theorem ggX7_depthAfter_X7_isStreet : GoodIn wsX7_depthAfter wsX7_isStreet := goodIn_ca (goodIn_r _ [8, 1, 9, 10, 7, 11, 85, 86, 87, 88, 89, 90, 91, 92, 93, 94, 95, 96, 97, 98, 99, 100, 101, 102, 103, 104] (by decide +kernel) (by decide +kernel)) (goodIn_sub (fun _ h => List.mem_cons_of_mem _ (List.mem_append_right _ h)) (by decide +kernel))
set_option maxRecDepth 20000 in
theorem gX7_depthAfter_X7_isStreet : GoodIn wsX7_depthAfter (wsV RX7 110 RX7 yX7_isStreet wsX7_isStreet) := goodIn_app (goodIn_of _ (by decide +kernel)) ggX7_depthAfter_X7_isStreet
set_option maxRecDepth 20000 in
theorem ggX7_depthAfter_X7_isThrown : GoodIn wsX7_depthAfter wsX7_isThrown := goodIn_r _ [15, 16, 85, 86, 87, 88, 89, 90, 91, 92, 93, 94, 95, 96, 97, 98, 99, 100, 101, 102, 103, 104] (by decide +kernel) (by decide +kernel)
set_option maxRecDepth 20000 in
theorem gX7_depthAfter_X7_isThrown : GoodIn wsX7_depthAfter (wsV RX7 79 RX7 yX7_isThrown wsX7_isThrown) := goodIn_app (goodIn_of _ (by decide +kernel)) ggX7_depthAfter_X7_isThrown
set_option maxRecDepth 20000 in
theorem ggX7_depthAfter_X7_isIn : GoodIn wsX7_depthAfter wsX7_isIn := goodIn_r _ [11] (by decide +kernel) (by decide +kernel)
set_option maxRecDepth 20000 in
theorem gX7_depthAfter_X7_isIn : GoodIn wsX7_depthAfter (va_wsS RX7 57 yX7_isIn wsX7_isIn) := goodIn_app (goodIn_of _ (by decide +kernel)) ggX7_depthAfter_X7_isIn
set_option maxRecDepth 20000 in
theorem ggX7_depthAfter_X7_copies : GoodIn wsX7_depthAfter wsX7_copies := goodIn_ca (goodIn_r _ [19] (by decide +kernel) (by decide +kernel)) (goodIn_sub (fun _ h => List.mem_cons_of_mem _ (List.mem_append_right _ h)) (by decide +kernel))
set_option maxRecDepth 20000 in
theorem gX7_depthAfter_X7_copies : GoodIn wsX7_depthAfter (va_wsS RX7 50 yX7_copies wsX7_copies) := goodIn_app (goodIn_of _ (by decide +kernel)) ggX7_depthAfter_X7_copies
set_option maxRecDepth 20000 in
theorem ggX7_depthAfter_X7_minutePasses : GoodIn wsX7_depthAfter wsX7_minutePasses := goodIn_ca (goodIn_r _ [23, 1, 24, 25, 26, 7, 27, 28, 29, 30, 31, 32, 33, 34, 35, 36, 37, 38, 39, 40, 41, 42, 43, 44, 45, 46, 47, 48, 49, 50, 51, 52, 53, 54, 55, 56, 57, 58, 59, 60, 61, 62, 63, 64, 65, 66, 67, 68, 69, 70, 71, 72, 73, 74, 75, 76, 77, 78, 79, 80, 81, 82, 83, 84, 85, 86, 87, 88, 89, 90, 91, 92, 93, 94, 95, 96, 97, 98, 99, 100, 101, 102, 103, 104] (by decide +kernel) (by decide +kernel)) (goodIn_sub (fun _ h => List.mem_cons_of_mem _ (List.mem_append_right _ h)) (by decide +kernel))
set_option maxRecDepth 20000 in
theorem gX7_depthAfter_X7_minutePasses : GoodIn wsX7_depthAfter (wsV RX7 159 RX7 yX7_minutePasses wsX7_minutePasses) := goodIn_app (goodIn_of _ (by decide +kernel)) ggX7_depthAfter_X7_minutePasses
set_option maxRecDepth 20000 in
theorem ggX7_depthAfter_X7_of : GoodIn wsX7_depthAfter wsX7_of := goodIn_ca (goodIn_r _ [52, 1, 85, 86, 87, 88, 89, 90, 91, 92, 93, 94, 95, 96, 97, 98, 99, 100, 101, 102, 103, 104] (by decide +kernel) (by decide +kernel)) (goodIn_sub (fun _ h => List.mem_cons_of_mem _ (List.mem_append_right _ h)) (by decide +kernel))
set_option maxRecDepth 20000 in
theorem gX7_depthAfter_X7_of : GoodIn wsX7_depthAfter (wsV RX7 61 RX7 yX7_of wsX7_of) := goodIn_app (goodIn_of _ (by decide +kernel)) ggX7_depthAfter_X7_of
set_option maxRecDepth 20000 in
theorem ggX7_meanDepth_X7_of : GoodIn wsX7_meanDepth wsX7_of := goodIn_ca (goodIn_r _ [6, 1, 12, 13, 14, 15, 16, 17, 18, 19, 20, 21, 22, 23, 24, 25, 26, 27, 28, 29, 30, 31] (by decide +kernel) (by decide +kernel)) (goodIn_sub (fun _ h => List.mem_cons_of_mem _ (List.mem_append_right _ h)) (by decide +kernel))
set_option maxRecDepth 20000 in
theorem gX7_meanDepth_X7_of : GoodIn wsX7_meanDepth (wsV RX7 61 RX7 yX7_of wsX7_of) := goodIn_app (goodIn_of _ (by decide +kernel)) ggX7_meanDepth_X7_of
set_option maxRecDepth 20000 in
theorem ggX7_meanDepth_X7_isThrown : GoodIn wsX7_meanDepth wsX7_isThrown := goodIn_r _ [10, 11, 12, 13, 14, 15, 16, 17, 18, 19, 20, 21, 22, 23, 24, 25, 26, 27, 28, 29, 30, 31] (by decide +kernel) (by decide +kernel)
set_option maxRecDepth 20000 in
theorem gX7_meanDepth_X7_isThrown : GoodIn wsX7_meanDepth (wsV RX7 79 RX7 yX7_isThrown wsX7_isThrown) := goodIn_app (goodIn_of _ (by decide +kernel)) ggX7_meanDepth_X7_isThrown
set_option maxRecDepth 20000 in
theorem ggX7_saltedShare_X7_salted : GoodIn wsX7_saltedShare wsX7_salted := goodIn_ca (goodIn_r _ [6, 1, 7, 8, 9, 5, 10, 16, 17, 18, 19, 20, 21, 22, 23, 24, 25, 26, 27, 28, 29, 30, 31, 32, 33, 34, 35] (by decide +kernel) (by decide +kernel)) (goodIn_sub (fun _ h => List.mem_cons_of_mem _ (List.mem_append_right _ h)) (by decide +kernel))
set_option maxRecDepth 20000 in
theorem gX7_saltedShare_X7_salted : GoodIn wsX7_saltedShare (wsV RX7 122 RX7 yX7_salted wsX7_salted) := goodIn_app (goodIn_of _ (by decide +kernel)) ggX7_saltedShare_X7_salted
set_option maxRecDepth 20000 in
theorem ggX7_saltedShare_X7_isThrown : GoodIn wsX7_saltedShare wsX7_isThrown := goodIn_r _ [14, 15, 16, 17, 18, 19, 20, 21, 22, 23, 24, 25, 26, 27, 28, 29, 30, 31, 32, 33, 34, 35] (by decide +kernel) (by decide +kernel)
set_option maxRecDepth 20000 in
theorem gX7_saltedShare_X7_isThrown : GoodIn wsX7_saltedShare (wsV RX7 79 RX7 yX7_isThrown wsX7_isThrown) := goodIn_app (goodIn_of _ (by decide +kernel)) ggX7_saltedShare_X7_isThrown
set_option maxRecDepth 20000 in
theorem ggX7_isConsistent_X7_of : GoodIn wsX7_isConsistent wsX7_of := goodIn_ca (goodIn_r _ [7, 2, 11, 12, 13, 14, 15, 16, 17, 18, 19, 20, 21, 22, 23, 24, 25, 26, 27, 28, 29, 30] (by decide +kernel) (by decide +kernel)) (goodIn_sub (fun _ h => List.mem_cons_of_mem _ (List.mem_append_right _ h)) (by decide +kernel))
set_option maxRecDepth 20000 in
theorem gX7_isConsistent_X7_of : GoodIn wsX7_isConsistent (wsV RX7 61 RX7 yX7_of wsX7_of) := goodIn_app (goodIn_of _ (by decide +kernel)) ggX7_isConsistent_X7_of
set_option maxRecDepth 20000 in
theorem ggX7_isConsistent_X7_isIn : GoodIn wsX7_isConsistent wsX7_isIn := goodIn_r _ [10] (by decide +kernel) (by decide +kernel)
set_option maxRecDepth 20000 in
theorem gX7_isConsistent_X7_isIn : GoodIn wsX7_isConsistent (va_wsS RX7 57 yX7_isIn wsX7_isIn) := goodIn_app (goodIn_of _ (by decide +kernel)) ggX7_isConsistent_X7_isIn
set_option maxRecDepth 20000 in
theorem ggX7_number_X7_number : GoodIn wsX7_number wsX7_number := goodIn_ca (goodIn_r _ [0, 1, 2, 3, 4, 5, 6, 7, 8, 9, 10, 11, 12, 13, 14, 15, 16, 17, 18, 19, 20, 21, 22, 23, 24, 25, 26, 27, 28, 29, 30] (by decide +kernel) (by decide +kernel)) (goodIn_sub (fun _ h => List.mem_cons_of_mem _ (List.mem_append_right _ h)) (by decide +kernel))
set_option maxRecDepth 20000 in
theorem gX7_number_X7_number : GoodIn wsX7_number (wsV RX7 183 RX7 yX7_number wsX7_number) := goodIn_app (goodIn_of _ (by decide +kernel)) ggX7_number_X7_number
set_option maxRecDepth 20000 in
theorem ggX7_number_X7_puts : GoodIn wsX7_number wsX7_puts := goodIn_ca (goodIn_r _ [8, 9, 10, 11, 12, 13, 14, 15, 16, 17, 18, 19, 20, 21, 22, 23, 24, 25, 26, 27, 28, 29, 30] (by decide +kernel) (by decide +kernel)) (goodIn_sub (fun _ h => List.mem_cons_of_mem _ (List.mem_append_right _ h)) (by decide +kernel))
set_option maxRecDepth 20000 in
theorem gX7_number_X7_puts : GoodIn wsX7_number (wsV RX7 186 RX7 yX7_puts wsX7_puts) := goodIn_app (goodIn_of _ (by decide +kernel)) ggX7_number_X7_puts
set_option maxRecDepth 20000 in
theorem ggX7_renderStreet_X7_isStreet : GoodIn wsX7_renderStreet wsX7_isStreet := goodIn_ca (goodIn_r _ [6, 7, 8, 9, 5, 10, 33, 34, 35, 36, 37, 38, 39, 40, 41, 42, 43, 44, 45, 46, 47, 48, 49, 50, 51, 52] (by decide +kernel) (by decide +kernel)) (goodIn_sub (fun _ h => List.mem_cons_of_mem _ (List.mem_append_right _ h)) (by decide +kernel))
set_option maxRecDepth 20000 in
theorem gX7_renderStreet_X7_isStreet : GoodIn wsX7_renderStreet (wsV RX7 110 RX7 yX7_isStreet wsX7_isStreet) := goodIn_app (goodIn_of _ (by decide +kernel)) ggX7_renderStreet_X7_isStreet
set_option maxRecDepth 20000 in
theorem ggX7_renderStreet_X7_isThrown : GoodIn wsX7_renderStreet wsX7_isThrown := goodIn_r _ [14, 15, 33, 34, 35, 36, 37, 38, 39, 40, 41, 42, 43, 44, 45, 46, 47, 48, 49, 50, 51, 52] (by decide +kernel) (by decide +kernel)
set_option maxRecDepth 20000 in
theorem gX7_renderStreet_X7_isThrown : GoodIn wsX7_renderStreet (wsV RX7 79 RX7 yX7_isThrown wsX7_isThrown) := goodIn_app (goodIn_of _ (by decide +kernel)) ggX7_renderStreet_X7_isThrown
set_option maxRecDepth 20000 in
theorem ggX7_renderStreet_X7_number : GoodIn wsX7_renderStreet wsX7_number := goodIn_ca (goodIn_r _ [19, 16, 17, 18, 5, 20, 21, 22, 23, 24, 1, 33, 34, 35, 36, 37, 38, 39, 40, 41, 42, 43, 44, 45, 46, 47, 48, 49, 50, 51, 52] (by decide +kernel) (by decide +kernel)) (goodIn_sub (fun _ h => List.mem_cons_of_mem _ (List.mem_append_right _ h)) (by decide +kernel))
set_option maxRecDepth 20000 in
theorem gX7_renderStreet_X7_number : GoodIn wsX7_renderStreet (wsV RX7 183 RX7 yX7_number wsX7_number) := goodIn_app (goodIn_of _ (by decide +kernel)) ggX7_renderStreet_X7_number
set_option maxRecDepth 20000 in
theorem ggX7_renderStreet_X7_puts : GoodIn wsX7_renderStreet wsX7_puts := goodIn_ca (goodIn_r _ [23, 24, 1, 33, 34, 35, 36, 37, 38, 39, 40, 41, 42, 43, 44, 45, 46, 47, 48, 49, 50, 51, 52] (by decide +kernel) (by decide +kernel)) (goodIn_sub (fun _ h => List.mem_cons_of_mem _ (List.mem_append_right _ h)) (by decide +kernel))
set_option maxRecDepth 20000 in
theorem gX7_renderStreet_X7_puts : GoodIn wsX7_renderStreet (wsV RX7 186 RX7 yX7_puts wsX7_puts) := goodIn_app (goodIn_of _ (by decide +kernel)) ggX7_renderStreet_X7_puts
set_option maxRecDepth 20000 in
theorem ggX7_renderStreet_X7_of : GoodIn wsX7_renderStreet wsX7_of := goodIn_ca (goodIn_r _ [28, 7, 33, 34, 35, 36, 37, 38, 39, 40, 41, 42, 43, 44, 45, 46, 47, 48, 49, 50, 51, 52] (by decide +kernel) (by decide +kernel)) (goodIn_sub (fun _ h => List.mem_cons_of_mem _ (List.mem_append_right _ h)) (by decide +kernel))
set_option maxRecDepth 20000 in
theorem gX7_renderStreet_X7_of : GoodIn wsX7_renderStreet (wsV RX7 61 RX7 yX7_of wsX7_of) := goodIn_app (goodIn_of _ (by decide +kernel)) ggX7_renderStreet_X7_of
set_option maxRecDepth 20000 in
theorem ggX7_renderStreet_X7_salted : GoodIn wsX7_renderStreet wsX7_salted := goodIn_ca (goodIn_r _ [32, 7, 25, 26, 27, 5, 28, 33, 34, 35, 36, 37, 38, 39, 40, 41, 42, 43, 44, 45, 46, 47, 48, 49, 50, 51, 52] (by decide +kernel) (by decide +kernel)) (goodIn_sub (fun _ h => List.mem_cons_of_mem _ (List.mem_append_right _ h)) (by decide +kernel))
set_option maxRecDepth 20000 in
theorem gX7_renderStreet_X7_salted : GoodIn wsX7_renderStreet (wsV RX7 122 RX7 yX7_salted wsX7_salted) := goodIn_app (goodIn_of _ (by decide +kernel)) ggX7_renderStreet_X7_salted
set_option maxRecDepth 20000 in
theorem ggX7_renderQueue_X7_isPlough : GoodIn wsX7_renderQueue wsX7_isPlough := goodIn_ca (goodIn_r _ [6, 7, 8, 9, 5, 10, 29, 30, 31, 32, 33, 34, 35, 36, 37, 38, 39, 40, 41, 42, 43, 44, 45, 46, 47, 48] (by decide +kernel) (by decide +kernel)) (goodIn_sub (fun _ h => List.mem_cons_of_mem _ (List.mem_append_right _ h)) (by decide +kernel))
set_option maxRecDepth 20000 in
theorem gX7_renderQueue_X7_isPlough : GoodIn wsX7_renderQueue (wsV RX7 107 RX7 yX7_isPlough wsX7_isPlough) := goodIn_app (goodIn_of _ (by decide +kernel)) ggX7_renderQueue_X7_isPlough
set_option maxRecDepth 20000 in
theorem ggX7_renderQueue_X7_isThrown : GoodIn wsX7_renderQueue wsX7_isThrown := goodIn_r _ [14, 15, 29, 30, 31, 32, 33, 34, 35, 36, 37, 38, 39, 40, 41, 42, 43, 44, 45, 46, 47, 48] (by decide +kernel) (by decide +kernel)
set_option maxRecDepth 20000 in
theorem gX7_renderQueue_X7_isThrown : GoodIn wsX7_renderQueue (wsV RX7 79 RX7 yX7_isThrown wsX7_isThrown) := goodIn_app (goodIn_of _ (by decide +kernel)) ggX7_renderQueue_X7_isThrown
set_option maxRecDepth 20000 in
theorem ggX7_renderQueue_X7_ofPlough : GoodIn wsX7_renderQueue wsX7_ofPlough := goodIn_ca (goodIn_r _ [19, 7, 29, 30, 31, 32, 33, 34, 35, 36, 37, 38, 39, 40, 41, 42, 43, 44, 45, 46, 47, 48] (by decide +kernel) (by decide +kernel)) (goodIn_sub (fun _ h => List.mem_cons_of_mem _ (List.mem_append_right _ h)) (by decide +kernel))
set_option maxRecDepth 20000 in
theorem gX7_renderQueue_X7_ofPlough : GoodIn wsX7_renderQueue (wsV RX7 113 RX7 yX7_ofPlough wsX7_ofPlough) := goodIn_app (goodIn_of _ (by decide +kernel)) ggX7_renderQueue_X7_ofPlough
set_option maxRecDepth 20000 in
theorem ggX7_renderQueue_X7_puts : GoodIn wsX7_renderQueue wsX7_puts := goodIn_ca (goodIn_r _ [23, 24, 1, 29, 30, 31, 32, 33, 34, 35, 36, 37, 38, 39, 40, 41, 42, 43, 44, 45, 46, 47, 48] (by decide +kernel) (by decide +kernel)) (goodIn_sub (fun _ h => List.mem_cons_of_mem _ (List.mem_append_right _ h)) (by decide +kernel))
set_option maxRecDepth 20000 in
theorem gX7_renderQueue_X7_puts : GoodIn wsX7_renderQueue (wsV RX7 186 RX7 yX7_puts wsX7_puts) := goodIn_app (goodIn_of _ (by decide +kernel)) ggX7_renderQueue_X7_puts
set_option maxRecDepth 20000 in
theorem ggX7_renderQueue_X7_number : GoodIn wsX7_renderQueue wsX7_number := goodIn_ca (goodIn_r _ [28, 25, 26, 27, 5, 20, 21, 22, 23, 24, 1, 29, 30, 31, 32, 33, 34, 35, 36, 37, 38, 39, 40, 41, 42, 43, 44, 45, 46, 47, 48] (by decide +kernel) (by decide +kernel)) (goodIn_sub (fun _ h => List.mem_cons_of_mem _ (List.mem_append_right _ h)) (by decide +kernel))
set_option maxRecDepth 20000 in
theorem gX7_renderQueue_X7_number : GoodIn wsX7_renderQueue (wsV RX7 183 RX7 yX7_number wsX7_number) := goodIn_app (goodIn_of _ (by decide +kernel)) ggX7_renderQueue_X7_number
set_option maxRecDepth 20000 in
theorem ggX7_outputAt_X7_isIn : GoodIn wsX7_outputAt wsX7_isIn := goodIn_r _ [6] (by decide +kernel) (by decide +kernel)
set_option maxRecDepth 20000 in
theorem gX7_outputAt_X7_isIn : GoodIn wsX7_outputAt (va_wsS RX7 57 yX7_isIn wsX7_isIn) := goodIn_app (goodIn_of _ (by decide +kernel)) ggX7_outputAt_X7_isIn
set_option maxRecDepth 20000 in
theorem ggX7_outputAt_X7_isThrown : GoodIn wsX7_outputAt wsX7_isThrown := goodIn_r _ [10, 11, 12, 13, 14, 15, 16, 17, 18, 19, 20, 21, 22, 23, 24, 25, 26, 27, 28, 29, 30, 31] (by decide +kernel) (by decide +kernel)
set_option maxRecDepth 20000 in
theorem gX7_outputAt_X7_isThrown : GoodIn wsX7_outputAt (wsV RX7 79 RX7 yX7_isThrown wsX7_isThrown) := goodIn_app (goodIn_of _ (by decide +kernel)) ggX7_outputAt_X7_isThrown
set_option maxRecDepth 20000 in
theorem ggX7_type_X7_isIn : GoodIn wsX7_type wsX7_isIn := goodIn_r _ [6] (by decide +kernel) (by decide +kernel)
set_option maxRecDepth 20000 in
theorem gX7_type_X7_isIn : GoodIn wsX7_type (va_wsS RX7 57 yX7_isIn wsX7_isIn) := goodIn_app (goodIn_of _ (by decide +kernel)) ggX7_type_X7_isIn
set_option maxRecDepth 20000 in
theorem ggX7_type_X7_isThrown : GoodIn wsX7_type wsX7_isThrown := goodIn_r _ [10, 11, 12, 13, 14, 15, 16, 17, 18, 19, 20, 21, 22, 23, 24, 25, 26, 27, 28, 29, 30, 31] (by decide +kernel) (by decide +kernel)
set_option maxRecDepth 20000 in
theorem gX7_type_X7_isThrown : GoodIn wsX7_type (wsV RX7 79 RX7 yX7_isThrown wsX7_isThrown) := goodIn_app (goodIn_of _ (by decide +kernel)) ggX7_type_X7_isThrown
set_option maxRecDepth 20000 in
theorem ggX7_isSign_X7_sign : GoodIn wsX7_isSign wsX7_sign := goodIn_ca (goodIn_r _ [6, 1, 7, 8, 9, 10, 11, 12, 13, 14, 15, 16, 17, 18, 19, 20, 21, 22, 23, 24, 25, 26, 27, 28] (by decide +kernel) (by decide +kernel)) (goodIn_sub (fun _ h => List.mem_cons_of_mem _ (List.mem_append_right _ h)) (by decide +kernel))
set_option maxRecDepth 20000 in
theorem gX7_isSign_X7_sign : GoodIn wsX7_isSign (wsV RX7 195 RX7 yX7_sign wsX7_sign) := goodIn_app (goodIn_of _ (by decide +kernel)) ggX7_isSign_X7_sign
set_option maxRecDepth 20000 in
theorem ggX7_isNumber_X7_sign : GoodIn wsX7_isNumber wsX7_sign := goodIn_ca (goodIn_r _ [7, 1, 8, 9, 13, 14, 15, 16, 17, 18, 19, 20, 21, 22, 23, 24, 25, 26, 27, 28, 29, 30, 31, 32] (by decide +kernel) (by decide +kernel)) (goodIn_sub (fun _ h => List.mem_cons_of_mem _ (List.mem_append_right _ h)) (by decide +kernel))
set_option maxRecDepth 20000 in
theorem gX7_isNumber_X7_sign : GoodIn wsX7_isNumber (wsV RX7 195 RX7 yX7_sign wsX7_sign) := goodIn_app (goodIn_of _ (by decide +kernel)) ggX7_isNumber_X7_sign
set_option maxRecDepth 20000 in
theorem ggX7_isNumber_X7_isIn : GoodIn wsX7_isNumber wsX7_isIn := goodIn_r _ [12] (by decide +kernel) (by decide +kernel)
set_option maxRecDepth 20000 in
theorem gX7_isNumber_X7_isIn : GoodIn wsX7_isNumber (va_wsS RX7 57 yX7_isIn wsX7_isIn) := goodIn_app (goodIn_of _ (by decide +kernel)) ggX7_isNumber_X7_isIn
set_option maxRecDepth 20000 in
theorem ggX7_isWord_J0_length_8abf5 : GoodIn wsX7_isWord wsJ0_length_8abf5 := goodIn_r _ [5, 6, 7, 8, 9, 4, 10, 11, 12, 62, 63, 64, 65] (by decide +kernel) (by decide +kernel)
set_option maxRecDepth 20000 in
theorem gX7_isWord_J0_length_8abf5 : GoodIn wsX7_isWord (wsV RX7 199 RJ0 yJ0_length_8abf5 wsJ0_length_8abf5) := goodIn_app (goodIn_of _ (by decide +kernel)) ggX7_isWord_J0_length_8abf5
set_option maxRecDepth 20000 in
theorem ggX7_isWord_J0_charAt_5068e : GoodIn wsX7_isWord wsJ0_charAt_5068e := goodIn_r _ [16, 6, 17, 18, 19, 4, 20, 11, 12, 21, 22, 23, 24, 25, 26, 27, 28, 29, 30, 31, 32, 33, 34, 35, 36, 37, 38, 39, 40, 41, 42, 43, 44, 45, 46, 47, 48, 49, 62, 63, 64, 65] (by decide +kernel) (by decide +kernel)
set_option maxRecDepth 20000 in
theorem gX7_isWord_J0_charAt_5068e : GoodIn wsX7_isWord (wsV RX7 204 RJ0 yJ0_charAt_5068e wsJ0_charAt_5068e) := goodIn_app (goodIn_of _ (by decide +kernel)) ggX7_isWord_J0_charAt_5068e
set_option maxRecDepth 20000 in
theorem ggX7_isWord_X7_isSign : GoodIn wsX7_isWord wsX7_isSign := goodIn_ca (goodIn_r _ [54, 55, 56, 57, 58, 53, 59, 60, 61, 66, 67, 68, 69, 70, 71, 72, 73, 74, 75, 76, 77, 78, 79, 80, 81, 82, 83, 84, 85] (by decide +kernel) (by decide +kernel)) (goodIn_sub (fun _ h => List.mem_cons_of_mem _ (List.mem_append_right _ h)) (by decide +kernel))
set_option maxRecDepth 20000 in
theorem gX7_isWord_X7_isSign : GoodIn wsX7_isWord (wsV RX7 208 RX7 yX7_isSign wsX7_isSign) := goodIn_app (goodIn_of _ (by decide +kernel)) ggX7_isWord_X7_isSign
set_option maxRecDepth 20000 in
theorem ggX7_isClass_X7_sign : GoodIn wsX7_isClass wsX7_sign := goodIn_ca (goodIn_r _ [6, 7, 8, 9, 14, 15, 16, 17, 18, 19, 20, 21, 22, 23, 24, 25, 26, 27, 28, 29, 30, 31, 32, 33] (by decide +kernel) (by decide +kernel)) (goodIn_sub (fun _ h => List.mem_cons_of_mem _ (List.mem_append_right _ h)) (by decide +kernel))
set_option maxRecDepth 20000 in
theorem gX7_isClass_X7_sign : GoodIn wsX7_isClass (wsV RX7 195 RX7 yX7_sign wsX7_sign) := goodIn_app (goodIn_of _ (by decide +kernel)) ggX7_isClass_X7_sign
set_option maxRecDepth 20000 in
theorem ggX7_isClass_X7_isSign : GoodIn wsX7_isClass wsX7_isSign := goodIn_ca (goodIn_r _ [13, 7, 2, 3, 4, 5, 6, 8, 9, 14, 15, 16, 17, 18, 19, 20, 21, 22, 23, 24, 25, 26, 27, 28, 29, 30, 31, 32, 33] (by decide +kernel) (by decide +kernel)) (goodIn_sub (fun _ h => List.mem_cons_of_mem _ (List.mem_append_right _ h)) (by decide +kernel))
set_option maxRecDepth 20000 in
theorem gX7_isClass_X7_isSign : GoodIn wsX7_isClass (wsV RX7 208 RX7 yX7_isSign wsX7_isSign) := goodIn_app (goodIn_of _ (by decide +kernel)) ggX7_isClass_X7_isSign
set_option maxRecDepth 20000 in
theorem ggX7_readsS_X7_isSign : GoodIn wsX7_readsS wsX7_isSign := goodIn_ca (goodIn_r _ [6, 7, 8, 9, 10, 5, 11, 12, 13, 78, 79, 80, 81, 82, 83, 84, 85, 86, 87, 88, 89, 90, 91, 92, 93, 94, 95, 96, 97] (by decide +kernel) (by decide +kernel)) (goodIn_sub (fun _ h => List.mem_cons_of_mem _ (List.mem_append_right _ h)) (by decide +kernel))
set_option maxRecDepth 20000 in
theorem gX7_readsS_X7_isSign : GoodIn wsX7_readsS (wsV RX7 208 RX7 yX7_isSign wsX7_isSign) := goodIn_app (goodIn_of _ (by decide +kernel)) ggX7_readsS_X7_isSign
set_option maxRecDepth 20000 in
theorem ggX7_readsS_X7_isWord : GoodIn wsX7_readsS wsX7_isWord := goodIn_ca (goodIn_r _ [17, 18, 19, 20, 21, 22, 23, 24, 25, 26, 27, 28, 29, 30, 31, 32, 33, 34, 35, 36, 37, 38, 39, 40, 41, 42, 43, 44, 45, 46, 47, 48, 49, 50, 51, 52, 53, 54, 55, 56, 57, 58, 59, 60, 61, 62, 63, 64, 65, 66, 2, 3, 4, 5, 6, 7, 8, 9, 10, 11, 12, 13, 98, 99, 100, 101, 78, 79, 80, 81, 82, 83, 84, 85, 86, 87, 88, 89, 90, 91, 92, 93, 94, 95, 96, 97] (by decide +kernel) (by decide +kernel)) (goodIn_sub (fun _ h => List.mem_cons_of_mem _ (List.mem_append_right _ h)) (by decide +kernel))
set_option maxRecDepth 20000 in
theorem gX7_readsS_X7_isWord : GoodIn wsX7_readsS (wsV RX7 213 RX7 yX7_isWord wsX7_isWord) := goodIn_app (goodIn_of _ (by decide +kernel)) ggX7_readsS_X7_isWord
set_option maxRecDepth 20000 in
theorem ggX7_readsS_X7_isNumber : GoodIn wsX7_readsS wsX7_isNumber := goodIn_ca (goodIn_r _ [70, 7, 1, 8, 9, 10, 5, 11, 12, 13, 71, 72, 73, 78, 79, 80, 81, 82, 83, 84, 85, 86, 87, 88, 89, 90, 91, 92, 93, 94, 95, 96, 97] (by decide +kernel) (by decide +kernel)) (goodIn_sub (fun _ h => List.mem_cons_of_mem _ (List.mem_append_right _ h)) (by decide +kernel))
set_option maxRecDepth 20000 in
theorem gX7_readsS_X7_isNumber : GoodIn wsX7_readsS (wsV RX7 217 RX7 yX7_isNumber wsX7_isNumber) := goodIn_app (goodIn_of _ (by decide +kernel)) ggX7_readsS_X7_isNumber
set_option maxRecDepth 20000 in
theorem ggX7_readsS_X7_isClass : GoodIn wsX7_readsS wsX7_isClass := goodIn_ca (goodIn_r _ [77, 1, 8, 9, 10, 5, 11, 7, 12, 13, 2, 3, 4, 6, 78, 79, 80, 81, 82, 83, 84, 85, 86, 87, 88, 89, 90, 91, 92, 93, 94, 95, 96, 97] (by decide +kernel) (by decide +kernel)) (goodIn_sub (fun _ h => List.mem_cons_of_mem _ (List.mem_append_right _ h)) (by decide +kernel))
set_option maxRecDepth 20000 in
theorem gX7_readsS_X7_isClass : GoodIn wsX7_readsS (wsV RX7 220 RX7 yX7_isClass wsX7_isClass) := goodIn_app (goodIn_of _ (by decide +kernel)) ggX7_readsS_X7_isClass
set_option maxRecDepth 20000 in
theorem ggX7_readsW_X7_isSign : GoodIn wsX7_readsW wsX7_isSign := goodIn_ca (goodIn_r _ [6, 7, 8, 9, 10, 5, 11, 12, 13, 74, 75, 76, 77, 78, 79, 80, 81, 82, 83, 84, 85, 86, 87, 88, 89, 90, 91, 92, 93] (by decide +kernel) (by decide +kernel)) (goodIn_sub (fun _ h => List.mem_cons_of_mem _ (List.mem_append_right _ h)) (by decide +kernel))
set_option maxRecDepth 20000 in
theorem gX7_readsW_X7_isSign : GoodIn wsX7_readsW (wsV RX7 208 RX7 yX7_isSign wsX7_isSign) := goodIn_app (goodIn_of _ (by decide +kernel)) ggX7_readsW_X7_isSign
set_option maxRecDepth 20000 in
theorem ggX7_readsW_X7_isWord : GoodIn wsX7_readsW wsX7_isWord := goodIn_ca (goodIn_r _ [17, 18, 19, 20, 21, 22, 23, 24, 25, 26, 27, 28, 29, 30, 31, 32, 33, 34, 35, 36, 37, 38, 39, 40, 41, 42, 43, 44, 45, 46, 47, 48, 49, 50, 51, 52, 53, 54, 55, 56, 57, 58, 59, 60, 61, 62, 63, 64, 65, 66, 2, 3, 4, 5, 6, 7, 8, 9, 10, 11, 12, 13, 94, 95, 96, 97, 74, 75, 76, 77, 78, 79, 80, 81, 82, 83, 84, 85, 86, 87, 88, 89, 90, 91, 92, 93] (by decide +kernel) (by decide +kernel)) (goodIn_sub (fun _ h => List.mem_cons_of_mem _ (List.mem_append_right _ h)) (by decide +kernel))
set_option maxRecDepth 20000 in
theorem gX7_readsW_X7_isWord : GoodIn wsX7_readsW (wsV RX7 213 RX7 yX7_isWord wsX7_isWord) := goodIn_app (goodIn_of _ (by decide +kernel)) ggX7_readsW_X7_isWord
set_option maxRecDepth 20000 in
theorem ggX7_readsW_X7_isNumber : GoodIn wsX7_readsW wsX7_isNumber := goodIn_ca (goodIn_r _ [70, 7, 1, 8, 9, 10, 5, 11, 12, 13, 71, 72, 73, 74, 75, 76, 77, 78, 79, 80, 81, 82, 83, 84, 85, 86, 87, 88, 89, 90, 91, 92, 93] (by decide +kernel) (by decide +kernel)) (goodIn_sub (fun _ h => List.mem_cons_of_mem _ (List.mem_append_right _ h)) (by decide +kernel))
set_option maxRecDepth 20000 in
theorem gX7_readsW_X7_isNumber : GoodIn wsX7_readsW (wsV RX7 217 RX7 yX7_isNumber wsX7_isNumber) := goodIn_app (goodIn_of _ (by decide +kernel)) ggX7_readsW_X7_isNumber
set_option maxRecDepth 20000 in
theorem ggX7_readsRest_X7_readsS : GoodIn wsX7_readsRest wsX7_readsS := goodIn_ca (goodIn_r _ [5, 6, 7, 8, 9, 4, 10, 11, 12, 13, 14, 15, 16, 17, 18, 19, 20, 21, 22, 23, 24, 25, 26, 27, 28, 29, 30, 31, 32, 33, 34, 35, 36, 37, 38, 39, 40, 41, 42, 43, 44, 45, 46, 47, 48, 49, 50, 51, 52, 53, 54, 55, 56, 57, 58, 59, 60, 61, 62, 63, 64, 65, 66, 67, 68, 69, 70, 71, 72, 73, 74, 75, 76, 77, 78, 79, 80, 81, 86, 87, 88, 89, 90, 91, 92, 93, 94, 95, 96, 97, 98, 99, 100, 101, 102, 103, 104, 105, 106, 107, 108, 109] (by decide +kernel) (by decide +kernel)) (goodIn_sub (fun _ h => List.mem_cons_of_mem _ (List.mem_append_right _ h)) (by decide +kernel))
set_option maxRecDepth 20000 in
theorem gX7_readsRest_X7_readsS : GoodIn wsX7_readsRest (wsV RX7 231 RX7 yX7_readsS wsX7_readsS) := goodIn_app (goodIn_of _ (by decide +kernel)) ggX7_readsRest_X7_readsS
set_option maxRecDepth 20000 in
theorem ggX7_readsRest_X7_readsW : GoodIn wsX7_readsRest wsX7_readsW := goodIn_ca (goodIn_r _ [85, 6, 7, 8, 9, 4, 10, 11, 12, 13, 14, 15, 16, 17, 18, 19, 20, 21, 22, 23, 24, 25, 26, 27, 28, 29, 30, 31, 32, 33, 34, 35, 36, 37, 38, 39, 40, 41, 42, 43, 44, 45, 46, 47, 48, 49, 50, 51, 52, 53, 54, 55, 56, 57, 58, 59, 60, 61, 62, 63, 64, 65, 66, 67, 68, 69, 70, 71, 72, 73, 74, 75, 76, 77, 86, 87, 88, 89, 90, 91, 92, 93, 94, 95, 96, 97, 98, 99, 100, 101, 102, 103, 104, 105, 106, 107, 108, 109] (by decide +kernel) (by decide +kernel)) (goodIn_sub (fun _ h => List.mem_cons_of_mem _ (List.mem_append_right _ h)) (by decide +kernel))
set_option maxRecDepth 20000 in
theorem gX7_readsRest_X7_readsW : GoodIn wsX7_readsRest (wsV RX7 234 RX7 yX7_readsW wsX7_readsW) := goodIn_app (goodIn_of _ (by decide +kernel)) ggX7_readsRest_X7_readsW
set_option maxRecDepth 20000 in
theorem ggX7_readsRest_X7_isWord : GoodIn wsX7_readsRest wsX7_isWord := goodIn_ca (goodIn_r _ [21, 22, 23, 24, 25, 26, 27, 28, 29, 30, 31, 32, 33, 34, 35, 36, 37, 38, 39, 40, 41, 42, 43, 44, 45, 46, 47, 48, 49, 50, 51, 52, 53, 54, 55, 56, 57, 58, 59, 60, 61, 62, 63, 64, 65, 66, 67, 68, 69, 70, 7, 8, 9, 4, 10, 11, 12, 13, 14, 15, 16, 17, 106, 107, 108, 109, 86, 87, 88, 89, 90, 91, 92, 93, 94, 95, 96, 97, 98, 99, 100, 101, 102, 103, 104, 105] (by decide +kernel) (by decide +kernel)) (goodIn_sub (fun _ h => List.mem_cons_of_mem _ (List.mem_append_right _ h)) (by decide +kernel))
set_option maxRecDepth 20000 in
theorem gX7_readsRest_X7_isWord : GoodIn wsX7_readsRest (wsV RX7 213 RX7 yX7_isWord wsX7_isWord) := goodIn_app (goodIn_of _ (by decide +kernel)) ggX7_readsRest_X7_isWord
set_option maxRecDepth 20000 in
theorem ggX7_readsRest_X7_isNumber : GoodIn wsX7_readsRest wsX7_isNumber := goodIn_ca (goodIn_r _ [74, 11, 6, 12, 13, 14, 4, 15, 16, 17, 75, 76, 77, 86, 87, 88, 89, 90, 91, 92, 93, 94, 95, 96, 97, 98, 99, 100, 101, 102, 103, 104, 105] (by decide +kernel) (by decide +kernel)) (goodIn_sub (fun _ h => List.mem_cons_of_mem _ (List.mem_append_right _ h)) (by decide +kernel))
set_option maxRecDepth 20000 in
theorem gX7_readsRest_X7_isNumber : GoodIn wsX7_readsRest (wsV RX7 217 RX7 yX7_isNumber wsX7_isNumber) := goodIn_app (goodIn_of _ (by decide +kernel)) ggX7_readsRest_X7_isNumber
set_option maxRecDepth 20000 in
theorem ggX7_readsRest_X7_isSign : GoodIn wsX7_readsRest wsX7_isSign := goodIn_ca (goodIn_r _ [10, 11, 12, 13, 14, 4, 15, 16, 17, 86, 87, 88, 89, 90, 91, 92, 93, 94, 95, 96, 97, 98, 99, 100, 101, 102, 103, 104, 105] (by decide +kernel) (by decide +kernel)) (goodIn_sub (fun _ h => List.mem_cons_of_mem _ (List.mem_append_right _ h)) (by decide +kernel))
set_option maxRecDepth 20000 in
theorem gX7_readsRest_X7_isSign : GoodIn wsX7_readsRest (wsV RX7 208 RX7 yX7_isSign wsX7_isSign) := goodIn_app (goodIn_of _ (by decide +kernel)) ggX7_readsRest_X7_isSign
set_option maxRecDepth 20000 in
theorem ggX7_readsCommand_X7_sign : GoodIn wsX7_readsCommand wsX7_sign := goodIn_ca (goodIn_r _ [8, 3, 9, 10, 94, 95, 96, 97, 98, 99, 100, 101, 102, 103, 104, 105, 106, 107, 108, 109, 110, 111, 112, 113] (by decide +kernel) (by decide +kernel)) (goodIn_sub (fun _ h => List.mem_cons_of_mem _ (List.mem_append_right _ h)) (by decide +kernel))
set_option maxRecDepth 20000 in
theorem gX7_readsCommand_X7_sign : GoodIn wsX7_readsCommand (wsV RX7 195 RX7 yX7_sign wsX7_sign) := goodIn_app (goodIn_of _ (by decide +kernel)) ggX7_readsCommand_X7_sign
set_option maxRecDepth 20000 in
theorem ggX7_readsCommand_X7_isFirst : GoodIn wsX7_readsCommand wsX7_isFirst := goodIn_r _ [13] (by decide +kernel) (by decide +kernel)
set_option maxRecDepth 20000 in
theorem gX7_readsCommand_X7_isFirst : GoodIn wsX7_readsCommand (va_wsS RX7 248 yX7_isFirst wsX7_isFirst) := goodIn_app (goodIn_of _ (by decide +kernel)) ggX7_readsCommand_X7_isFirst
set_option maxRecDepth 20000 in
theorem ggX7_readsCommand_X7_readsRest : GoodIn wsX7_readsCommand wsX7_readsRest := goodIn_ca (goodIn_r _ [17, 18, 19, 20, 7, 21, 2, 22, 23, 24, 25, 3, 4, 5, 6, 8, 9, 10, 26, 27, 28, 29, 30, 31, 32, 33, 34, 35, 36, 37, 38, 39, 40, 41, 42, 43, 44, 45, 46, 47, 48, 49, 50, 51, 52, 53, 54, 55, 56, 57, 58, 59, 60, 61, 62, 63, 64, 65, 66, 67, 68, 69, 70, 71, 72, 73, 74, 75, 76, 77, 78, 79, 80, 81, 82, 83, 84, 85, 86, 87, 88, 89, 90, 91, 92, 93, 94, 95, 96, 97, 98, 99, 100, 101, 102, 103, 104, 105, 106, 107, 108, 109, 110, 111, 112, 113, 114, 115, 116, 117] (by decide +kernel) (by decide +kernel)) (goodIn_sub (fun _ h => List.mem_cons_of_mem _ (List.mem_append_right _ h)) (by decide +kernel))
set_option maxRecDepth 20000 in
theorem gX7_readsCommand_X7_readsRest : GoodIn wsX7_readsCommand (wsV RX7 251 RX7 yX7_readsRest wsX7_readsRest) := goodIn_app (goodIn_of _ (by decide +kernel)) ggX7_readsCommand_X7_readsRest
set_option maxRecDepth 20000 in
theorem ggX7_isScript_X7_readsCommand : GoodIn wsX7_isScript wsX7_readsCommand := goodIn_ca (goodIn_r _ [8, 2, 9, 1, 10, 11, 12, 7, 13, 3, 14, 15, 16, 17, 18, 19, 20, 21, 22, 23, 24, 25, 26, 27, 28, 29, 30, 31, 32, 33, 34, 35, 36, 37, 38, 39, 40, 41, 42, 43, 44, 45, 46, 47, 48, 49, 50, 51, 52, 53, 54, 55, 56, 57, 58, 59, 60, 61, 62, 63, 64, 65, 66, 67, 68, 69, 70, 71, 72, 73, 74, 75, 76, 77, 78, 79, 80, 81, 82, 83, 84, 85, 86, 87, 88, 89, 90, 91, 92, 93, 94, 95, 96, 97, 98, 99, 100, 101, 102, 103, 104, 105, 106, 107, 108, 109, 110, 111, 112, 113, 114, 115, 116, 117, 118, 119, 120, 121] (by decide +kernel) (by decide +kernel)) (goodIn_sub (fun _ h => List.mem_cons_of_mem _ (List.mem_append_right _ h)) (by decide +kernel))
set_option maxRecDepth 20000 in
theorem gX7_isScript_X7_readsCommand : GoodIn wsX7_isScript (wsV RX7 254 RX7 yX7_readsCommand wsX7_readsCommand) := goodIn_app (goodIn_of _ (by decide +kernel)) ggX7_isScript_X7_readsCommand
set_option maxRecDepth 20000 in
theorem ggX7_isScript_X7_isSign : GoodIn wsX7_isScript wsX7_isSign := goodIn_ca (goodIn_r _ [29, 1, 10, 11, 12, 7, 13, 3, 14, 98, 99, 100, 101, 102, 103, 104, 105, 106, 107, 108, 109, 110, 111, 112, 113, 114, 115, 116, 117] (by decide +kernel) (by decide +kernel)) (goodIn_sub (fun _ h => List.mem_cons_of_mem _ (List.mem_append_right _ h)) (by decide +kernel))
set_option maxRecDepth 20000 in
theorem gX7_isScript_X7_isSign : GoodIn wsX7_isScript (wsV RX7 208 RX7 yX7_isSign wsX7_isSign) := goodIn_app (goodIn_of _ (by decide +kernel)) ggX7_isScript_X7_isSign
set_option maxRecDepth 20000 in
theorem ggX7_does_X7_streets : GoodIn wsX7_does wsX7_streets := goodIn_ca (goodIn_r _ [6, 7, 8, 9, 5, 10, 11, 12, 13, 14, 15, 16, 17, 18, 19, 20, 21, 22, 23, 24, 25, 26, 27, 28, 29, 30, 31, 32, 33, 34, 35, 36, 128, 129, 130, 131, 132, 133, 134, 135, 136, 137, 138, 139, 140, 141, 142, 143, 144, 145, 146, 147] (by decide +kernel) (by decide +kernel)) (goodIn_sub (fun _ h => List.mem_cons_of_mem _ (List.mem_append_right _ h)) (by decide +kernel))
set_option maxRecDepth 20000 in
theorem gX7_does_X7_streets : GoodIn wsX7_does (wsV RX7 94 RX7 yX7_streets wsX7_streets) := goodIn_app (goodIn_of _ (by decide +kernel)) ggX7_does_X7_streets
set_option maxRecDepth 20000 in
theorem ggX7_does_X7_salts : GoodIn wsX7_does wsX7_salts := goodIn_ca (goodIn_r _ [40, 7, 41, 42, 43, 5, 44, 11, 12, 13, 14, 15, 16, 17, 18, 45, 46, 47, 48, 23, 24, 25, 26, 33, 34, 35, 36, 128, 129, 130, 131, 132, 133, 134, 135, 136, 137, 138, 139, 140, 141, 142, 143, 144, 145, 146, 147] (by decide +kernel) (by decide +kernel)) (goodIn_sub (fun _ h => List.mem_cons_of_mem _ (List.mem_append_right _ h)) (by decide +kernel))
set_option maxRecDepth 20000 in
theorem gX7_does_X7_salts : GoodIn wsX7_does (wsV RX7 125 RX7 yX7_salts wsX7_salts) := goodIn_app (goodIn_of _ (by decide +kernel)) ggX7_does_X7_salts
set_option maxRecDepth 20000 in
theorem ggX7_does_X7_tells : GoodIn wsX7_does wsX7_tells := goodIn_ca (goodIn_r _ [52, 7, 11, 12, 5, 13, 14, 15, 16, 17, 18, 128, 129, 130, 131, 132, 133, 134, 135, 136, 137, 138, 139, 140, 141, 142, 143, 144, 145, 146, 147] (by decide +kernel) (by decide +kernel)) (goodIn_sub (fun _ h => List.mem_cons_of_mem _ (List.mem_append_right _ h)) (by decide +kernel))
set_option maxRecDepth 20000 in
theorem gX7_does_X7_tells : GoodIn wsX7_does (wsV RX7 131 RX7 yX7_tells wsX7_tells) := goodIn_app (goodIn_of _ (by decide +kernel)) ggX7_does_X7_tells
set_option maxRecDepth 20000 in
theorem ggX7_does_X7_waits : GoodIn wsX7_does wsX7_waits := goodIn_ca (goodIn_r _ [56, 7, 57, 11, 12, 5, 13, 14, 15, 16, 17, 18, 58, 59, 60, 61, 62, 63, 64, 65, 66, 67, 68, 69, 70, 71, 72, 73, 74, 75, 76, 77, 78, 79, 80, 81, 82, 83, 84, 85, 86, 23, 24, 25, 26, 27, 28, 29, 87, 88, 89, 90, 33, 34, 35, 36, 91, 92, 93, 94, 45, 46, 47, 48, 95, 96, 97, 98, 99, 100, 101, 102, 103, 104, 105, 106, 107, 128, 129, 130, 131, 132, 133, 134, 135, 136, 137, 138, 139, 140, 141, 142, 143, 144, 145, 146, 147] (by decide +kernel) (by decide +kernel)) (goodIn_sub (fun _ h => List.mem_cons_of_mem _ (List.mem_append_right _ h)) (by decide +kernel))
set_option maxRecDepth 20000 in
theorem gX7_does_X7_waits : GoodIn wsX7_does (wsV RX7 165 RX7 yX7_waits wsX7_waits) := goodIn_app (goodIn_of _ (by decide +kernel)) ggX7_does_X7_waits
set_option maxRecDepth 20000 in
theorem ggX7_does_X7_ploughs : GoodIn wsX7_does wsX7_ploughs := goodIn_ca (goodIn_r _ [111, 7, 8, 9, 5, 10, 11, 12, 13, 14, 15, 16, 17, 18, 75, 76, 77, 78, 128, 129, 130, 131, 132, 133, 134, 135, 136, 137, 138, 139, 140, 141, 142, 143, 144, 145, 146, 147] (by decide +kernel) (by decide +kernel)) (goodIn_sub (fun _ h => List.mem_cons_of_mem _ (List.mem_append_right _ h)) (by decide +kernel))
set_option maxRecDepth 20000 in
theorem gX7_does_X7_ploughs : GoodIn wsX7_does (wsV RX7 104 RX7 yX7_ploughs wsX7_ploughs) := goodIn_app (goodIn_of _ (by decide +kernel)) ggX7_does_X7_ploughs
set_option maxRecDepth 20000 in
theorem ggX7_does_X7_orders : GoodIn wsX7_does wsX7_orders := goodIn_ca (goodIn_r _ [115, 116, 117, 118, 5, 119, 7, 11, 12, 13, 41, 42, 43, 44, 14, 15, 16, 17, 18, 66, 67, 68, 69, 75, 76, 77, 78, 128, 129, 130, 131, 132, 133, 134, 135, 136, 137, 138, 139, 140, 141, 142, 143, 144, 145, 146, 147] (by decide +kernel) (by decide +kernel)) (goodIn_sub (fun _ h => List.mem_cons_of_mem _ (List.mem_append_right _ h)) (by decide +kernel))
set_option maxRecDepth 20000 in
theorem gX7_does_X7_orders : GoodIn wsX7_does (wsV RX7 116 RX7 yX7_orders wsX7_orders) := goodIn_app (goodIn_of _ (by decide +kernel)) ggX7_does_X7_orders
set_option maxRecDepth 20000 in
theorem ggX7_does_X7_cancels : GoodIn wsX7_does wsX7_cancels := goodIn_ca (goodIn_r _ [123, 116, 117, 118, 5, 119, 7, 11, 12, 13, 14, 15, 16, 17, 18, 66, 67, 68, 69, 75, 76, 77, 78, 128, 129, 130, 131, 132, 133, 134, 135, 136, 137, 138, 139, 140, 141, 142, 143, 144, 145, 146, 147] (by decide +kernel) (by decide +kernel)) (goodIn_sub (fun _ h => List.mem_cons_of_mem _ (List.mem_append_right _ h)) (by decide +kernel))
set_option maxRecDepth 20000 in
theorem gX7_does_X7_cancels : GoodIn wsX7_does (wsV RX7 119 RX7 yX7_cancels wsX7_cancels) := goodIn_app (goodIn_of _ (by decide +kernel)) ggX7_does_X7_cancels
set_option maxRecDepth 20000 in
theorem ggX7_does_X7_loads : GoodIn wsX7_does wsX7_loads := goodIn_ca (goodIn_r _ [127, 7, 11, 12, 5, 13, 14, 15, 16, 17, 18, 128, 129, 130, 131, 132, 133, 134, 135, 136, 137, 138, 139, 140, 141, 142, 143, 144, 145, 146, 147] (by decide +kernel) (by decide +kernel)) (goodIn_sub (fun _ h => List.mem_cons_of_mem _ (List.mem_append_right _ h)) (by decide +kernel))
set_option maxRecDepth 20000 in
theorem gX7_does_X7_loads : GoodIn wsX7_does (wsV RX7 128 RX7 yX7_loads wsX7_loads) := goodIn_app (goodIn_of _ (by decide +kernel)) ggX7_does_X7_loads
set_option maxRecDepth 20000 in
theorem ggX7_runScript_X7_isScript : GoodIn wsX7_runScript wsX7_isScript := goodIn_ca (goodIn_r _ [14, 2, 4, 1, 15, 16, 17, 13, 18, 19, 20, 21, 22, 23, 24, 25, 26, 27, 28, 29, 30, 31, 32, 33, 34, 35, 36, 37, 38, 39, 40, 41, 42, 43, 44, 45, 46, 47, 48, 49, 50, 51, 52, 53, 54, 55, 56, 57, 58, 59, 60, 61, 62, 63, 64, 65, 66, 67, 68, 69, 70, 71, 72, 73, 74, 75, 76, 77, 78, 79, 80, 81, 82, 83, 84, 85, 86, 87, 88, 89, 90, 91, 92, 93, 94, 95, 96, 97, 98, 99, 100, 101, 102, 103, 104, 105, 106, 107, 244, 245, 246, 247, 248, 249, 250, 251, 252, 253, 254, 255, 256, 257, 258, 259, 260, 261, 262, 263, 264, 265, 266, 267] (by decide +kernel) (by decide +kernel)) (goodIn_sub (fun _ h => List.mem_cons_of_mem _ (List.mem_append_right _ h)) (by decide +kernel))
set_option maxRecDepth 20000 in
theorem gX7_runScript_X7_isScript : GoodIn wsX7_runScript (wsV RX7 258 RX7 yX7_isScript wsX7_isScript) := goodIn_app (goodIn_of _ (by decide +kernel)) ggX7_runScript_X7_isScript
set_option maxRecDepth 20000 in
theorem ggX7_runScript_X7_isThrown : GoodIn wsX7_runScript wsX7_isThrown := goodIn_r _ [111, 5, 244, 245, 246, 247, 248, 249, 250, 251, 252, 253, 254, 255, 256, 257, 258, 259, 260, 261, 262, 263] (by decide +kernel) (by decide +kernel)
set_option maxRecDepth 20000 in
theorem gX7_runScript_X7_isThrown : GoodIn wsX7_runScript (wsV RX7 79 RX7 yX7_isThrown wsX7_isThrown) := goodIn_app (goodIn_of _ (by decide +kernel)) ggX7_runScript_X7_isThrown
set_option maxRecDepth 20000 in
theorem ggX7_runScript_X7_keeps : GoodIn wsX7_runScript wsX7_keeps := goodIn_ca (goodIn_r _ [115, 8, 7, 5, 116, 117, 13, 118, 244, 245, 246, 247, 248, 249, 250, 251, 252, 253, 254, 255, 256, 257, 258, 259, 260, 261, 262, 263] (by decide +kernel) (by decide +kernel)) (goodIn_sub (fun _ h => List.mem_cons_of_mem _ (List.mem_append_right _ h)) (by decide +kernel))
set_option maxRecDepth 20000 in
theorem gX7_runScript_X7_keeps : GoodIn wsX7_runScript (wsV RX7 91 RX7 yX7_keeps wsX7_keeps) := goodIn_app (goodIn_of _ (by decide +kernel)) ggX7_runScript_X7_keeps
set_option maxRecDepth 20000 in
theorem ggX7_runScript_X7_does : GoodIn wsX7_runScript wsX7_does := goodIn_ca (goodIn_r _ [122, 19, 123, 124, 125, 13, 126, 8, 127, 128, 129, 97, 98, 99, 108, 109, 110, 111, 5, 130, 131, 132, 133, 134, 135, 136, 137, 138, 139, 140, 141, 142, 143, 144, 145, 146, 147, 148, 149, 150, 151, 152, 153, 154, 155, 156, 157, 158, 159, 160, 161, 162, 163, 164, 165, 166, 167, 6, 168, 169, 170, 171, 172, 173, 174, 175, 176, 177, 178, 179, 180, 181, 182, 183, 184, 185, 186, 187, 188, 189, 190, 191, 192, 193, 194, 195, 196, 197, 198, 199, 200, 201, 202, 203, 204, 205, 206, 207, 208, 209, 210, 211, 212, 213, 214, 215, 216, 217, 218, 219, 220, 221, 222, 223, 224, 225, 226, 227, 228, 229, 230, 231, 232, 233, 234, 235, 236, 237, 244, 245, 246, 247, 248, 249, 250, 251, 252, 253, 254, 255, 256, 257, 258, 259, 260, 261, 262, 263] (by decide +kernel) (by decide +kernel)) (goodIn_sub (fun _ h => List.mem_cons_of_mem _ (List.mem_append_right _ h)) (by decide +kernel))
set_option maxRecDepth 20000 in
theorem gX7_runScript_X7_does : GoodIn wsX7_runScript (wsV RX7 261 RX7 yX7_does wsX7_does) := goodIn_app (goodIn_of _ (by decide +kernel)) ggX7_runScript_X7_does
set_option maxRecDepth 20000 in
theorem ggX7_runScript_X7_copies : GoodIn wsX7_runScript wsX7_copies := goodIn_ca (goodIn_r _ [118] (by decide +kernel) (by decide +kernel)) (goodIn_sub (fun _ h => List.mem_cons_of_mem _ (List.mem_append_right _ h)) (by decide +kernel))
set_option maxRecDepth 20000 in
theorem gX7_runScript_X7_copies : GoodIn wsX7_runScript (va_wsS RX7 50 yX7_copies wsX7_copies) := goodIn_app (goodIn_of _ (by decide +kernel)) ggX7_runScript_X7_copies
set_option maxRecDepth 20000 in
theorem ggX7_runScript_X7_ends : GoodIn wsX7_runScript wsX7_ends := goodIn_ca (goodIn_r _ [241, 5, 242, 243, 7, 116, 117, 13, 118, 244, 245, 246, 247, 248, 249, 250, 251, 252, 253, 254, 255, 256, 257, 258, 259, 260, 261, 262, 263] (by decide +kernel) (by decide +kernel)) (goodIn_sub (fun _ h => List.mem_cons_of_mem _ (List.mem_append_right _ h)) (by decide +kernel))
set_option maxRecDepth 20000 in
theorem gX7_runScript_X7_ends : GoodIn wsX7_runScript (wsV RX7 98 RX7 yX7_ends wsX7_ends) := goodIn_app (goodIn_of _ (by decide +kernel)) ggX7_runScript_X7_ends
set_option maxRecDepth 20000 in
theorem ggX7_errorPosition_X7_isThrown : GoodIn wsX7_errorPosition wsX7_isThrown := goodIn_r _ [6, 7, 8, 9, 10, 11, 12, 13, 14, 15, 16, 17, 18, 19, 20, 21, 22, 23, 24, 25, 26, 27] (by decide +kernel) (by decide +kernel)
set_option maxRecDepth 20000 in
theorem gX7_errorPosition_X7_isThrown : GoodIn wsX7_errorPosition (wsV RX7 79 RX7 yX7_isThrown wsX7_isThrown) := goodIn_app (goodIn_of _ (by decide +kernel)) ggX7_errorPosition_X7_isThrown
set_option maxRecDepth 20000 in
theorem ggX7_failedCommand_X7_isThrown : GoodIn wsX7_failedCommand wsX7_isThrown := goodIn_r _ [6, 7, 8, 9, 10, 11, 12, 13, 14, 15, 16, 17, 18, 19, 20, 21, 22, 23, 24, 25, 26, 27] (by decide +kernel) (by decide +kernel)
set_option maxRecDepth 20000 in
theorem gX7_failedCommand_X7_isThrown : GoodIn wsX7_failedCommand (wsV RX7 79 RX7 yX7_isThrown wsX7_isThrown) := goodIn_app (goodIn_of _ (by decide +kernel)) ggX7_failedCommand_X7_isThrown
set_option maxRecDepth 20000 in
theorem ggX7_undo_X7_isThrown : GoodIn wsX7_undo wsX7_isThrown := goodIn_r _ [8, 9, 13, 14, 15, 16, 17, 18, 19, 20, 21, 22, 23, 24, 25, 26, 27, 28, 29, 30, 31, 32] (by decide +kernel) (by decide +kernel)
set_option maxRecDepth 20000 in
theorem gX7_undo_X7_isThrown : GoodIn wsX7_undo (wsV RX7 79 RX7 yX7_isThrown wsX7_isThrown) := goodIn_app (goodIn_of _ (by decide +kernel)) ggX7_undo_X7_isThrown
set_option maxRecDepth 20000 in
theorem ggX7_undo_X7_copies : GoodIn wsX7_undo wsX7_copies := goodIn_ca (goodIn_r _ [12] (by decide +kernel) (by decide +kernel)) (goodIn_sub (fun _ h => List.mem_cons_of_mem _ (List.mem_append_right _ h)) (by decide +kernel))
set_option maxRecDepth 20000 in
theorem gX7_undo_X7_copies : GoodIn wsX7_undo (va_wsS RX7 50 yX7_copies wsX7_copies) := goodIn_app (goodIn_of _ (by decide +kernel)) ggX7_undo_X7_copies
set_option maxRecDepth 20000 in
theorem ggX7_save_X7_copies : GoodIn wsX7_save wsX7_copies := goodIn_ca (goodIn_r _ [8] (by decide +kernel) (by decide +kernel)) (goodIn_sub (fun _ h => List.mem_cons_of_mem _ (List.mem_append_right _ h)) (by decide +kernel))
set_option maxRecDepth 20000 in
theorem gX7_save_X7_copies : GoodIn wsX7_save (va_wsS RX7 50 yX7_copies wsX7_copies) := goodIn_app (goodIn_of _ (by decide +kernel)) ggX7_save_X7_copies
set_option maxRecDepth 20000 in
theorem ggX7_restore_X7_isThrown : GoodIn wsX7_restore wsX7_isThrown := goodIn_r _ [9, 10, 14, 15, 16, 17, 18, 19, 20, 21, 22, 23, 24, 25, 26, 27, 28, 29, 30, 31, 32, 33] (by decide +kernel) (by decide +kernel)
set_option maxRecDepth 20000 in
theorem gX7_restore_X7_isThrown : GoodIn wsX7_restore (wsV RX7 79 RX7 yX7_isThrown wsX7_isThrown) := goodIn_app (goodIn_of _ (by decide +kernel)) ggX7_restore_X7_isThrown
set_option maxRecDepth 20000 in
theorem ggX7_restore_X7_copies : GoodIn wsX7_restore wsX7_copies := goodIn_ca (goodIn_r _ [13] (by decide +kernel) (by decide +kernel)) (goodIn_sub (fun _ h => List.mem_cons_of_mem _ (List.mem_append_right _ h)) (by decide +kernel))
set_option maxRecDepth 20000 in
theorem gX7_restore_X7_copies : GoodIn wsX7_restore (va_wsS RX7 50 yX7_copies wsX7_copies) := goodIn_app (goodIn_of _ (by decide +kernel)) ggX7_restore_X7_copies
