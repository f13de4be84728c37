set_option maxRecDepth 20000 in
theorem ggX0_init_X5_init : GoodIn wsX0_init wsX5_init := goodIn_r _ [10, 11, 2, 3, 12, 13, 14, 15, 16, 17, 18, 19, 20, 21, 22, 23, 24, 25, 26, 27, 28, 29, 30, 31, 32, 33, 34, 35, 36, 37, 38, 39, 40, 41, 45, 46, 47, 48, 49, 50, 51, 52, 53, 54, 55, 56, 57, 58, 59, 60, 61, 62, 63, 64, 65, 66, 67, 68, 69, 70] (by decide +kernel) (by decide +kernel)
set_option maxRecDepth 20000 in
theorem gX0_init_X5_init : GoodIn wsX0_init (wsX5_init) := ggX0_init_X5_init
theorem dX0_init_0 : decode cX0_init 0 = .ok (.aload_n 0, 1) := by decide +kernel
theorem dX0_init_1 : decode cX0_init 1 = .ok (.invokespecial 3, 3) := by decide +kernel
theorem dX0_init_4 : decode cX0_init 4 = .ok (.aload_n 0, 1) := by decide +kernel
theorem dX0_init_5 : decode cX0_init 5 = .ok (.bipush 9, 2) := by decide +kernel
theorem dX0_init_7 : decode cX0_init 7 = .ok (.anewarray 11, 3) := by decide +kernel
theorem dX0_init_10 : decode cX0_init 10 = .ok (.putfield 13, 3) := by decide +kernel
theorem dX0_init_13 : decode cX0_init 13 = .ok (.iconst 0, 1) := by decide +kernel
theorem dX0_init_14 : decode cX0_init 14 = .ok (.istore_n 2, 1) := by decide +kernel
theorem dX0_init_15 : decode cX0_init 15 = .ok (.iload_n 2, 1) := by decide +kernel
theorem dX0_init_16 : decode cX0_init 16 = .ok (.bipush 9, 2) := by decide +kernel
theorem dX0_init_18 : decode cX0_init 18 = .ok (.if_icmp .ge 23, 3) := by decide +kernel
theorem dX0_init_21 : decode cX0_init 21 = .ok (.aload_n 0, 1) := by decide +kernel
theorem dX0_init_22 : decode cX0_init 22 = .ok (.getfield 13, 3) := by decide +kernel
theorem dX0_init_25 : decode cX0_init 25 = .ok (.iload_n 2, 1) := by decide +kernel
theorem dX0_init_26 : decode cX0_init 26 = .ok (.new 11, 3) := by decide +kernel
theorem dX0_init_29 : decode cX0_init 29 = .ok (.dup, 1) := by decide +kernel
theorem dX0_init_30 : decode cX0_init 30 = .ok (.aload_n 1, 1) := by decide +kernel
theorem dX0_init_31 : decode cX0_init 31 = .ok (.invokespecial 17, 3) := by decide +kernel
theorem dX0_init_34 : decode cX0_init 34 = .ok (.aastore, 1) := by decide +kernel
theorem dX0_init_35 : decode cX0_init 35 = .ok (.iinc 2 1, 3) := by decide +kernel
theorem dX0_init_38 : decode cX0_init 38 = .ok (.goto (-23), 3) := by decide +kernel
theorem dX0_init_41 : decode cX0_init 41 = .ok (.return_, 1) := by decide +kernel
set_option maxRecDepth 20000 in
theorem ggX0_write_X0_freePlace : GoodIn wsX0_write wsX0_freePlace := goodIn_r _ [5, 6, 7, 53, 54, 55] (by decide +kernel) (by decide +kernel)
set_option maxRecDepth 20000 in
theorem gX0_write_X0_freePlace : GoodIn wsX0_write (wsV RX0 20 RX0 yX0_freePlace wsX0_freePlace) := goodIn_app (goodIn_of _ (by decide +kernel)) ggX0_write_X0_freePlace
set_option maxRecDepth 20000 in
theorem ggX0_write_X5_copyFrom : GoodIn wsX0_write wsX5_copyFrom := goodIn_r _ [12, 13, 14, 15, 16, 17, 18, 19, 20, 21, 22, 23, 24, 25, 26, 27, 28, 29, 30, 31, 32, 33, 34, 35, 36, 37, 38, 39, 40, 41, 42, 43, 44, 45, 46, 47, 48, 49, 50, 51, 52, 56, 57, 58, 59, 60, 61, 62, 63, 64, 65, 66, 67, 68, 69, 70, 71, 72, 73, 74, 75, 76, 77, 78, 79, 80, 81] (by decide +kernel) (by decide +kernel)
set_option maxRecDepth 20000 in
theorem gX0_write_X5_copyFrom : GoodIn wsX0_write (wsV RX0 24 RX5 yX5_copyFrom wsX5_copyFrom) := goodIn_app (goodIn_of _ (by decide +kernel)) ggX0_write_X5_copyFrom
theorem dX0_write_0 : decode cX0_write 0 = .ok (.aload_n 0, 1) := by decide +kernel
theorem dX0_write_1 : decode cX0_write 1 = .ok (.invokevirtual 20, 3) := by decide +kernel
theorem dX0_write_4 : decode cX0_write 4 = .ok (.astore_n 2, 1) := by decide +kernel
theorem dX0_write_5 : decode cX0_write 5 = .ok (.aload_n 2, 1) := by decide +kernel
theorem dX0_write_6 : decode cX0_write 6 = .ok (.ifnull 8, 3) := by decide +kernel
theorem dX0_write_9 : decode cX0_write 9 = .ok (.aload_n 2, 1) := by decide +kernel
theorem dX0_write_10 : decode cX0_write 10 = .ok (.aload_n 1, 1) := by decide +kernel
theorem dX0_write_11 : decode cX0_write 11 = .ok (.invokevirtual 24, 3) := by decide +kernel
theorem dX0_write_14 : decode cX0_write 14 = .ok (.return_, 1) := by decide +kernel
set_option maxRecDepth 20000 in
theorem ggX0_read_X0_freePlace : GoodIn wsX0_read wsX0_freePlace := goodIn_r _ [5, 6, 7, 53, 54, 55] (by decide +kernel) (by decide +kernel)
set_option maxRecDepth 20000 in
theorem gX0_read_X0_freePlace : GoodIn wsX0_read (wsV RX0 20 RX0 yX0_freePlace wsX0_freePlace) := goodIn_app (goodIn_of _ (by decide +kernel)) ggX0_read_X0_freePlace
set_option maxRecDepth 20000 in
theorem ggX0_read_X5_copyFrom : GoodIn wsX0_read wsX5_copyFrom := goodIn_r _ [12, 13, 14, 15, 16, 17, 18, 19, 20, 21, 22, 23, 24, 25, 26, 27, 28, 29, 30, 31, 32, 33, 34, 35, 36, 37, 38, 39, 40, 41, 42, 43, 44, 45, 46, 47, 48, 49, 50, 51, 52, 56, 57, 58, 59, 60, 61, 62, 63, 64, 65, 66, 67, 68, 69, 70, 71, 72, 73, 74, 75, 76, 77, 78, 79, 80, 81] (by decide +kernel) (by decide +kernel)
set_option maxRecDepth 20000 in
theorem gX0_read_X5_copyFrom : GoodIn wsX0_read (wsV RX0 24 RX5 yX5_copyFrom wsX5_copyFrom) := goodIn_app (goodIn_of _ (by decide +kernel)) ggX0_read_X5_copyFrom
theorem dX0_read_0 : decode cX0_read 0 = .ok (.aload_n 0, 1) := by decide +kernel
theorem dX0_read_1 : decode cX0_read 1 = .ok (.invokevirtual 20, 3) := by decide +kernel
theorem dX0_read_4 : decode cX0_read 4 = .ok (.astore_n 2, 1) := by decide +kernel
theorem dX0_read_5 : decode cX0_read 5 = .ok (.aload_n 2, 1) := by decide +kernel
theorem dX0_read_6 : decode cX0_read 6 = .ok (.ifnull 8, 3) := by decide +kernel
theorem dX0_read_9 : decode cX0_read 9 = .ok (.aload_n 1, 1) := by decide +kernel
theorem dX0_read_10 : decode cX0_read 10 = .ok (.aload_n 2, 1) := by decide +kernel
theorem dX0_read_11 : decode cX0_read 11 = .ok (.invokevirtual 24, 3) := by decide +kernel
theorem dX0_read_14 : decode cX0_read 14 = .ok (.return_, 1) := by decide +kernel
theorem dX0_freePlace_0 : decode cX0_freePlace 0 = .ok (.aload_n 0, 1) := by decide +kernel
theorem dX0_freePlace_1 : decode cX0_freePlace 1 = .ok (.getfield 28, 3) := by decide +kernel
theorem dX0_freePlace_4 : decode cX0_freePlace 4 = .ok (.ifCond .lt 24, 3) := by decide +kernel
theorem dX0_freePlace_7 : decode cX0_freePlace 7 = .ok (.aload_n 0, 1) := by decide +kernel
theorem dX0_freePlace_8 : decode cX0_freePlace 8 = .ok (.getfield 28, 3) := by decide +kernel
theorem dX0_freePlace_11 : decode cX0_freePlace 11 = .ok (.bipush 9, 2) := by decide +kernel
theorem dX0_freePlace_13 : decode cX0_freePlace 13 = .ok (.if_icmp .ge 15, 3) := by decide +kernel
theorem dX0_freePlace_16 : decode cX0_freePlace 16 = .ok (.aload_n 0, 1) := by decide +kernel
theorem dX0_freePlace_17 : decode cX0_freePlace 17 = .ok (.getfield 13, 3) := by decide +kernel
theorem dX0_freePlace_20 : decode cX0_freePlace 20 = .ok (.aload_n 0, 1) := by decide +kernel
theorem dX0_freePlace_21 : decode cX0_freePlace 21 = .ok (.getfield 28, 3) := by decide +kernel
theorem dX0_freePlace_24 : decode cX0_freePlace 24 = .ok (.aaload, 1) := by decide +kernel
theorem dX0_freePlace_25 : decode cX0_freePlace 25 = .ok (.goto 4, 3) := by decide +kernel
theorem dX0_freePlace_28 : decode cX0_freePlace 28 = .ok (.aconst_null, 1) := by decide +kernel
theorem dX0_freePlace_29 : decode cX0_freePlace 29 = .ok (.areturn, 1) := by decide +kernel
theorem dX0_push_0 : decode cX0_push 0 = .ok (.aload_n 0, 1) := by decide +kernel
theorem dX0_push_1 : decode cX0_push 1 = .ok (.aload_n 0, 1) := by decide +kernel
theorem dX0_push_2 : decode cX0_push 2 = .ok (.getfield 28, 3) := by decide +kernel
theorem dX0_push_5 : decode cX0_push 5 = .ok (.iconst 1, 1) := by decide +kernel
theorem dX0_push_6 : decode cX0_push 6 = .ok (.iadd, 1) := by decide +kernel
theorem dX0_push_7 : decode cX0_push 7 = .ok (.bipush 9, 2) := by decide +kernel
theorem dX0_push_9 : decode cX0_push 9 = .ok (.irem, 1) := by decide +kernel
theorem dX0_push_10 : decode cX0_push 10 = .ok (.putfield 28, 3) := by decide +kernel
theorem dX0_push_13 : decode cX0_push 13 = .ok (.aload_n 0, 1) := by decide +kernel
theorem dX0_push_14 : decode cX0_push 14 = .ok (.aload_n 0, 1) := by decide +kernel
theorem dX0_push_15 : decode cX0_push 15 = .ok (.getfield 32, 3) := by decide +kernel
theorem dX0_push_18 : decode cX0_push 18 = .ok (.iconst 1, 1) := by decide +kernel
theorem dX0_push_19 : decode cX0_push 19 = .ok (.iadd, 1) := by decide +kernel
theorem dX0_push_20 : decode cX0_push 20 = .ok (.bipush 8, 2) := by decide +kernel
theorem dX0_push_22 : decode cX0_push 22 = .ok (.invokestatic 35, 3) := by decide +kernel
theorem dX0_push_25 : decode cX0_push 25 = .ok (.putfield 32, 3) := by decide +kernel
theorem dX0_push_28 : decode cX0_push 28 = .ok (.return_, 1) := by decide +kernel
theorem dX0_pop_0 : decode cX0_pop 0 = .ok (.aload_n 0, 1) := by decide +kernel
theorem dX0_pop_1 : decode cX0_pop 1 = .ok (.aload_n 0, 1) := by decide +kernel
theorem dX0_pop_2 : decode cX0_pop 2 = .ok (.getfield 28, 3) := by decide +kernel
theorem dX0_pop_5 : decode cX0_pop 5 = .ok (.bipush 9, 2) := by decide +kernel
theorem dX0_pop_7 : decode cX0_pop 7 = .ok (.iadd, 1) := by decide +kernel
theorem dX0_pop_8 : decode cX0_pop 8 = .ok (.iconst 1, 1) := by decide +kernel
theorem dX0_pop_9 : decode cX0_pop 9 = .ok (.isub, 1) := by decide +kernel
theorem dX0_pop_10 : decode cX0_pop 10 = .ok (.bipush 9, 2) := by decide +kernel
theorem dX0_pop_12 : decode cX0_pop 12 = .ok (.irem, 1) := by decide +kernel
theorem dX0_pop_13 : decode cX0_pop 13 = .ok (.putfield 28, 3) := by decide +kernel
theorem dX0_pop_16 : decode cX0_pop 16 = .ok (.aload_n 0, 1) := by decide +kernel
theorem dX0_pop_17 : decode cX0_pop 17 = .ok (.dup, 1) := by decide +kernel
theorem dX0_pop_18 : decode cX0_pop 18 = .ok (.getfield 32, 3) := by decide +kernel
theorem dX0_pop_21 : decode cX0_pop 21 = .ok (.iconst 1, 1) := by decide +kernel
theorem dX0_pop_22 : decode cX0_pop 22 = .ok (.isub, 1) := by decide +kernel
theorem dX0_pop_23 : decode cX0_pop 23 = .ok (.putfield 32, 3) := by decide +kernel
theorem dX0_pop_26 : decode cX0_pop 26 = .ok (.return_, 1) := by decide +kernel
theorem dX1_init_0 : decode cX1_init 0 = .ok (.aload_n 0, 1) := by decide +kernel
theorem dX1_init_1 : decode cX1_init 1 = .ok (.invokespecial 3, 3) := by decide +kernel
theorem dX1_init_4 : decode cX1_init 4 = .ok (.aload_n 0, 1) := by decide +kernel
theorem dX1_init_5 : decode cX1_init 5 = .ok (.bipush 8, 2) := by decide +kernel
theorem dX1_init_7 : decode cX1_init 7 = .ok (.newarray .int, 2) := by decide +kernel
theorem dX1_init_9 : decode cX1_init 9 = .ok (.putfield 9, 3) := by decide +kernel
theorem dX1_init_12 : decode cX1_init 12 = .ok (.aload_n 0, 1) := by decide +kernel
theorem dX1_init_13 : decode cX1_init 13 = .ok (.bipush 8, 2) := by decide +kernel
theorem dX1_init_15 : decode cX1_init 15 = .ok (.newarray .boolean, 2) := by decide +kernel
theorem dX1_init_17 : decode cX1_init 17 = .ok (.putfield 15, 3) := by decide +kernel
theorem dX1_init_20 : decode cX1_init 20 = .ok (.aload_n 0, 1) := by decide +kernel
theorem dX1_init_21 : decode cX1_init 21 = .ok (.bipush 64, 2) := by decide +kernel
theorem dX1_init_23 : decode cX1_init 23 = .ok (.newarray .int, 2) := by decide +kernel
theorem dX1_init_25 : decode cX1_init 25 = .ok (.putfield 19, 3) := by decide +kernel
theorem dX1_init_28 : decode cX1_init 28 = .ok (.return_, 1) := by decide +kernel
set_option maxRecDepth 20000 in
theorem ggX1_measureFrom_X1_nearestOpen : GoodIn wsX1_measureFrom wsX1_nearestOpen := goodIn_ca (goodIn_r _ [14, 2, 3, 1, 25, 26, 27] (by decide +kernel) (by decide +kernel)) (goodIn_sub (fun _ h => List.mem_cons_of_mem _ (List.mem_append_right _ h)) (by decide +kernel))
set_option maxRecDepth 20000 in
theorem gX1_measureFrom_X1_nearestOpen : GoodIn wsX1_measureFrom (wsV RX1 23 RX1 yX1_nearestOpen wsX1_nearestOpen) := goodIn_app (goodIn_of _ (by decide +kernel)) ggX1_measureFrom_X1_nearestOpen
set_option maxRecDepth 20000 in
theorem ggX1_measureFrom_X6_isJunction : GoodIn wsX1_measureFrom wsX6_isJunction := goodIn_r _ [17] (by decide +kernel) (by decide +kernel)
set_option maxRecDepth 20000 in
theorem gX1_measureFrom_X6_isJunction_n27 : GoodIn wsX1_measureFrom (wsX6_isJunction) := ggX1_measureFrom_X6_isJunction
set_option maxRecDepth 20000 in
theorem ggX1_measureFrom_X4_otherEnd : GoodIn wsX1_measureFrom wsX4_otherEnd := goodIn_ca (goodIn_r _ [22, 23, 24, 28, 29, 30, 31, 32, 33, 34, 35, 36] (by decide +kernel) (by decide +kernel)) (goodIn_sub (fun _ h => List.mem_cons_of_mem _ (List.mem_append_right _ h)) (by decide +kernel))
set_option maxRecDepth 20000 in
theorem gX1_measureFrom_X4_otherEnd : GoodIn wsX1_measureFrom (wsV RX1 37 RX4 yX4_otherEnd wsX4_otherEnd) := goodIn_app (goodIn_of _ (by decide +kernel)) ggX1_measureFrom_X4_otherEnd
theorem dX1_measureFrom_0 : decode cX1_measureFrom 0 = .ok (.iconst 0, 1) := by decide +kernel
theorem dX1_measureFrom_1 : decode cX1_measureFrom 1 = .ok (.istore_n 3, 1) := by decide +kernel
theorem dX1_measureFrom_2 : decode cX1_measureFrom 2 = .ok (.iload_n 3, 1) := by decide +kernel
theorem dX1_measureFrom_3 : decode cX1_measureFrom 3 = .ok (.bipush 8, 2) := by decide +kernel
theorem dX1_measureFrom_5 : decode cX1_measureFrom 5 = .ok (.if_icmp .ge 33, 3) := by decide +kernel
theorem dX1_measureFrom_8 : decode cX1_measureFrom 8 = .ok (.aload_n 0, 1) := by decide +kernel
theorem dX1_measureFrom_9 : decode cX1_measureFrom 9 = .ok (.getfield 9, 3) := by decide +kernel
theorem dX1_measureFrom_12 : decode cX1_measureFrom 12 = .ok (.iload_n 3, 1) := by decide +kernel
theorem dX1_measureFrom_13 : decode cX1_measureFrom 13 = .ok (.iload_n 3, 1) := by decide +kernel
theorem dX1_measureFrom_14 : decode cX1_measureFrom 14 = .ok (.iload_n 1, 1) := by decide +kernel
theorem dX1_measureFrom_15 : decode cX1_measureFrom 15 = .ok (.if_icmp .ne 7, 3) := by decide +kernel
theorem dX1_measureFrom_18 : decode cX1_measureFrom 18 = .ok (.iconst 0, 1) := by decide +kernel
theorem dX1_measureFrom_19 : decode cX1_measureFrom 19 = .ok (.goto 5, 3) := by decide +kernel
theorem dX1_measureFrom_22 : decode cX1_measureFrom 22 = .ok (.ldc 22, 2) := by decide +kernel
theorem dX1_measureFrom_24 : decode cX1_measureFrom 24 = .ok (.iastore, 1) := by decide +kernel
theorem dX1_measureFrom_25 : decode cX1_measureFrom 25 = .ok (.aload_n 0, 1) := by decide +kernel
theorem dX1_measureFrom_26 : decode cX1_measureFrom 26 = .ok (.getfield 15, 3) := by decide +kernel
theorem dX1_measureFrom_29 : decode cX1_measureFrom 29 = .ok (.iload_n 3, 1) := by decide +kernel
theorem dX1_measureFrom_30 : decode cX1_measureFrom 30 = .ok (.iconst 0, 1) := by decide +kernel
theorem dX1_measureFrom_31 : decode cX1_measureFrom 31 = .ok (.bastore, 1) := by decide +kernel
theorem dX1_measureFrom_32 : decode cX1_measureFrom 32 = .ok (.iinc 3 1, 3) := by decide +kernel
theorem dX1_measureFrom_35 : decode cX1_measureFrom 35 = .ok (.goto (-33), 3) := by decide +kernel
theorem dX1_measureFrom_38 : decode cX1_measureFrom 38 = .ok (.iconst 0, 1) := by decide +kernel
theorem dX1_measureFrom_39 : decode cX1_measureFrom 39 = .ok (.istore_n 3, 1) := by decide +kernel
theorem dX1_measureFrom_40 : decode cX1_measureFrom 40 = .ok (.iload_n 3, 1) := by decide +kernel
theorem dX1_measureFrom_41 : decode cX1_measureFrom 41 = .ok (.bipush 8, 2) := by decide +kernel
theorem dX1_measureFrom_43 : decode cX1_measureFrom 43 = .ok (.if_icmp .ge 107, 3) := by decide +kernel
theorem dX1_measureFrom_46 : decode cX1_measureFrom 46 = .ok (.aload_n 0, 1) := by decide +kernel
theorem dX1_measureFrom_47 : decode cX1_measureFrom 47 = .ok (.invokevirtual 23, 3) := by decide +kernel
theorem dX1_measureFrom_50 : decode cX1_measureFrom 50 = .ok (.istore 4, 2) := by decide +kernel
theorem dX1_measureFrom_52 : decode cX1_measureFrom 52 = .ok (.iload 4, 2) := by decide +kernel
theorem dX1_measureFrom_54 : decode cX1_measureFrom 54 = .ok (.invokestatic 27, 3) := by decide +kernel
theorem dX1_measureFrom_57 : decode cX1_measureFrom 57 = .ok (.ifCond .ne 4, 3) := by decide +kernel
theorem dX1_measureFrom_60 : decode cX1_measureFrom 60 = .ok (.return_, 1) := by decide +kernel
theorem dX1_measureFrom_61 : decode cX1_measureFrom 61 = .ok (.aload_n 0, 1) := by decide +kernel
theorem dX1_measureFrom_62 : decode cX1_measureFrom 62 = .ok (.getfield 15, 3) := by decide +kernel
theorem dX1_measureFrom_65 : decode cX1_measureFrom 65 = .ok (.iload 4, 2) := by decide +kernel
theorem dX1_measureFrom_67 : decode cX1_measureFrom 67 = .ok (.iconst 1, 1) := by decide +kernel
theorem dX1_measureFrom_68 : decode cX1_measureFrom 68 = .ok (.bastore, 1) := by decide +kernel
theorem dX1_measureFrom_69 : decode cX1_measureFrom 69 = .ok (.iconst 0, 1) := by decide +kernel
theorem dX1_measureFrom_70 : decode cX1_measureFrom 70 = .ok (.istore 5, 2) := by decide +kernel
theorem dX1_measureFrom_72 : decode cX1_measureFrom 72 = .ok (.iload 5, 2) := by decide +kernel
theorem dX1_measureFrom_74 : decode cX1_measureFrom 74 = .ok (.aload_n 2, 1) := by decide +kernel
theorem dX1_measureFrom_75 : decode cX1_measureFrom 75 = .ok (.getfield 31, 3) := by decide +kernel
theorem dX1_measureFrom_78 : decode cX1_measureFrom 78 = .ok (.if_icmp .ge 66, 3) := by decide +kernel
theorem dX1_measureFrom_81 : decode cX1_measureFrom 81 = .ok (.iload 5, 2) := by decide +kernel
theorem dX1_measureFrom_83 : decode cX1_measureFrom 83 = .ok (.bipush 12, 2) := by decide +kernel
theorem dX1_measureFrom_85 : decode cX1_measureFrom 85 = .ok (.if_icmp .ge 59, 3) := by decide +kernel
theorem dX1_measureFrom_88 : decode cX1_measureFrom 88 = .ok (.aload_n 2, 1) := by decide +kernel
theorem dX1_measureFrom_89 : decode cX1_measureFrom 89 = .ok (.iload 5, 2) := by decide +kernel
theorem dX1_measureFrom_91 : decode cX1_measureFrom 91 = .ok (.iload 4, 2) := by decide +kernel
theorem dX1_measureFrom_93 : decode cX1_measureFrom 93 = .ok (.invokevirtual 37, 3) := by decide +kernel
theorem dX1_measureFrom_96 : decode cX1_measureFrom 96 = .ok (.istore 6, 2) := by decide +kernel
theorem dX1_measureFrom_98 : decode cX1_measureFrom 98 = .ok (.iload 6, 2) := by decide +kernel
theorem dX1_measureFrom_100 : decode cX1_measureFrom 100 = .ok (.invokestatic 27, 3) := by decide +kernel
theorem dX1_measureFrom_103 : decode cX1_measureFrom 103 = .ok (.ifCond .eq 35, 3) := by decide +kernel
theorem dX1_measureFrom_106 : decode cX1_measureFrom 106 = .ok (.aload_n 0, 1) := by decide +kernel
theorem dX1_measureFrom_107 : decode cX1_measureFrom 107 = .ok (.getfield 9, 3) := by decide +kernel
theorem dX1_measureFrom_110 : decode cX1_measureFrom 110 = .ok (.iload 6, 2) := by decide +kernel
theorem dX1_measureFrom_112 : decode cX1_measureFrom 112 = .ok (.aload_n 0, 1) := by decide +kernel
theorem dX1_measureFrom_113 : decode cX1_measureFrom 113 = .ok (.getfield 9, 3) := by decide +kernel
theorem dX1_measureFrom_116 : decode cX1_measureFrom 116 = .ok (.iload 6, 2) := by decide +kernel
theorem dX1_measureFrom_118 : decode cX1_measureFrom 118 = .ok (.iaload, 1) := by decide +kernel
theorem dX1_measureFrom_119 : decode cX1_measureFrom 119 = .ok (.aload_n 0, 1) := by decide +kernel
theorem dX1_measureFrom_120 : decode cX1_measureFrom 120 = .ok (.getfield 9, 3) := by decide +kernel
theorem dX1_measureFrom_123 : decode cX1_measureFrom 123 = .ok (.iload 4, 2) := by decide +kernel
theorem dX1_measureFrom_125 : decode cX1_measureFrom 125 = .ok (.iaload, 1) := by decide +kernel
theorem dX1_measureFrom_126 : decode cX1_measureFrom 126 = .ok (.aload_n 2, 1) := by decide +kernel
theorem dX1_measureFrom_127 : decode cX1_measureFrom 127 = .ok (.getfield 41, 3) := by decide +kernel
theorem dX1_measureFrom_130 : decode cX1_measureFrom 130 = .ok (.iload 5, 2) := by decide +kernel
theorem dX1_measureFrom_132 : decode cX1_measureFrom 132 = .ok (.iaload, 1) := by decide +kernel
theorem dX1_measureFrom_133 : decode cX1_measureFrom 133 = .ok (.iadd, 1) := by decide +kernel
theorem dX1_measureFrom_134 : decode cX1_measureFrom 134 = .ok (.invokestatic 44, 3) := by decide +kernel
theorem dX1_measureFrom_137 : decode cX1_measureFrom 137 = .ok (.iastore, 1) := by decide +kernel
theorem dX1_measureFrom_138 : decode cX1_measureFrom 138 = .ok (.iinc 5 1, 3) := by decide +kernel
theorem dX1_measureFrom_141 : decode cX1_measureFrom 141 = .ok (.goto (-69), 3) := by decide +kernel
theorem dX1_measureFrom_144 : decode cX1_measureFrom 144 = .ok (.iinc 3 1, 3) := by decide +kernel
theorem dX1_measureFrom_147 : decode cX1_measureFrom 147 = .ok (.goto (-107), 3) := by decide +kernel
theorem dX1_measureFrom_150 : decode cX1_measureFrom 150 = .ok (.return_, 1) := by decide +kernel
theorem dX1_nearestOpen_0 : decode cX1_nearestOpen 0 = .ok (.iconst (-1), 1) := by decide +kernel
theorem dX1_nearestOpen_1 : decode cX1_nearestOpen 1 = .ok (.istore_n 1, 1) := by decide +kernel
theorem dX1_nearestOpen_2 : decode cX1_nearestOpen 2 = .ok (.ldc 22, 2) := by decide +kernel
theorem dX1_nearestOpen_4 : decode cX1_nearestOpen 4 = .ok (.istore_n 2, 1) := by decide +kernel
theorem dX1_nearestOpen_5 : decode cX1_nearestOpen 5 = .ok (.iconst 0, 1) := by decide +kernel
theorem dX1_nearestOpen_6 : decode cX1_nearestOpen 6 = .ok (.istore_n 3, 1) := by decide +kernel
theorem dX1_nearestOpen_7 : decode cX1_nearestOpen 7 = .ok (.iload_n 3, 1) := by decide +kernel
theorem dX1_nearestOpen_8 : decode cX1_nearestOpen 8 = .ok (.bipush 8, 2) := by decide +kernel
theorem dX1_nearestOpen_10 : decode cX1_nearestOpen 10 = .ok (.if_icmp .ge 37, 3) := by decide +kernel
theorem dX1_nearestOpen_13 : decode cX1_nearestOpen 13 = .ok (.aload_n 0, 1) := by decide +kernel
theorem dX1_nearestOpen_14 : decode cX1_nearestOpen 14 = .ok (.getfield 15, 3) := by decide +kernel
theorem dX1_nearestOpen_17 : decode cX1_nearestOpen 17 = .ok (.iload_n 3, 1) := by decide +kernel
theorem dX1_nearestOpen_18 : decode cX1_nearestOpen 18 = .ok (.baload, 1) := by decide +kernel
theorem dX1_nearestOpen_19 : decode cX1_nearestOpen 19 = .ok (.ifCond .ne 22, 3) := by decide +kernel
theorem dX1_nearestOpen_22 : decode cX1_nearestOpen 22 = .ok (.aload_n 0, 1) := by decide +kernel
theorem dX1_nearestOpen_23 : decode cX1_nearestOpen 23 = .ok (.getfield 9, 3) := by decide +kernel
theorem dX1_nearestOpen_26 : decode cX1_nearestOpen 26 = .ok (.iload_n 3, 1) := by decide +kernel
theorem dX1_nearestOpen_27 : decode cX1_nearestOpen 27 = .ok (.iaload, 1) := by decide +kernel
theorem dX1_nearestOpen_28 : decode cX1_nearestOpen 28 = .ok (.iload_n 2, 1) := by decide +kernel
theorem dX1_nearestOpen_29 : decode cX1_nearestOpen 29 = .ok (.if_icmp .ge 12, 3) := by decide +kernel
theorem dX1_nearestOpen_32 : decode cX1_nearestOpen 32 = .ok (.iload_n 3, 1) := by decide +kernel
theorem dX1_nearestOpen_33 : decode cX1_nearestOpen 33 = .ok (.istore_n 1, 1) := by decide +kernel
theorem dX1_nearestOpen_34 : decode cX1_nearestOpen 34 = .ok (.aload_n 0, 1) := by decide +kernel
theorem dX1_nearestOpen_35 : decode cX1_nearestOpen 35 = .ok (.getfield 9, 3) := by decide +kernel
theorem dX1_nearestOpen_38 : decode cX1_nearestOpen 38 = .ok (.iload_n 3, 1) := by decide +kernel
theorem dX1_nearestOpen_39 : decode cX1_nearestOpen 39 = .ok (.iaload, 1) := by decide +kernel
theorem dX1_nearestOpen_40 : decode cX1_nearestOpen 40 = .ok (.istore_n 2, 1) := by decide +kernel
theorem dX1_nearestOpen_41 : decode cX1_nearestOpen 41 = .ok (.iinc 3 1, 3) := by decide +kernel
theorem dX1_nearestOpen_44 : decode cX1_nearestOpen 44 = .ok (.goto (-37), 3) := by decide +kernel
theorem dX1_nearestOpen_47 : decode cX1_nearestOpen 47 = .ok (.iload_n 1, 1) := by decide +kernel
theorem dX1_nearestOpen_48 : decode cX1_nearestOpen 48 = .ok (.ireturn, 1) := by decide +kernel
set_option maxRecDepth 20000 in
theorem ggX1_reachOf_X6_isJunction : GoodIn wsX1_reachOf wsX6_isJunction := goodIn_r _ [5] (by decide +kernel) (by decide +kernel)
set_option maxRecDepth 20000 in
theorem gX1_reachOf_X6_isJunction_n27 : GoodIn wsX1_reachOf (wsX6_isJunction) := ggX1_reachOf_X6_isJunction
theorem dX1_reachOf_0 : decode cX1_reachOf 0 = .ok (.iload_n 1, 1) := by decide +kernel
theorem dX1_reachOf_1 : decode cX1_reachOf 1 = .ok (.invokestatic 27, 3) := by decide +kernel
theorem dX1_reachOf_4 : decode cX1_reachOf 4 = .ok (.ifCond .eq 12, 3) := by decide +kernel
theorem dX1_reachOf_7 : decode cX1_reachOf 7 = .ok (.aload_n 0, 1) := by decide +kernel
theorem dX1_reachOf_8 : decode cX1_reachOf 8 = .ok (.getfield 9, 3) := by decide +kernel
theorem dX1_reachOf_11 : decode cX1_reachOf 11 = .ok (.iload_n 1, 1) := by decide +kernel
theorem dX1_reachOf_12 : decode cX1_reachOf 12 = .ok (.iaload, 1) := by decide +kernel
theorem dX1_reachOf_13 : decode cX1_reachOf 13 = .ok (.goto 5, 3) := by decide +kernel
theorem dX1_reachOf_16 : decode cX1_reachOf 16 = .ok (.ldc 22, 2) := by decide +kernel
theorem dX1_reachOf_18 : decode cX1_reachOf 18 = .ok (.ireturn, 1) := by decide +kernel
set_option maxRecDepth 20000 in
theorem ggX1_improveAll_X1_link : GoodIn wsX1_improveAll wsX1_link := goodIn_ca (goodIn_r _ [11, 1, 12, 13, 14, 23, 24, 25] (by decide +kernel) (by decide +kernel)) (goodIn_sub (fun _ h => List.mem_cons_of_mem _ (List.mem_append_right _ h)) (by decide +kernel))
set_option maxRecDepth 20000 in
theorem gX1_improveAll_X1_link : GoodIn wsX1_improveAll (wsV RX1 55 RX1 yX1_link wsX1_link) := goodIn_app (goodIn_of _ (by decide +kernel)) ggX1_improveAll_X1_link
set_option maxRecDepth 20000 in
theorem ggX1_improveAll_X1_improveBy : GoodIn wsX1_improveAll wsX1_improveBy := goodIn_ca (goodIn_r _ [18, 1, 19, 20, 21, 10, 22, 2, 12, 13, 14, 23, 24, 25] (by decide +kernel) (by decide +kernel)) (goodIn_sub (fun _ h => List.mem_cons_of_mem _ (List.mem_append_right _ h)) (by decide +kernel))
set_option maxRecDepth 20000 in
theorem gX1_improveAll_X1_improveBy : GoodIn wsX1_improveAll (wsV RX1 59 RX1 yX1_improveBy wsX1_improveBy) := goodIn_app (goodIn_of _ (by decide +kernel)) ggX1_improveAll_X1_improveBy
theorem dX1_improveAll_0 : decode cX1_improveAll 0 = .ok (.iconst 0, 1) := by decide +kernel
theorem dX1_improveAll_1 : decode cX1_improveAll 1 = .ok (.istore_n 2, 1) := by decide +kernel
theorem dX1_improveAll_2 : decode cX1_improveAll 2 = .ok (.iload_n 2, 1) := by decide +kernel
theorem dX1_improveAll_3 : decode cX1_improveAll 3 = .ok (.bipush 8, 2) := by decide +kernel
theorem dX1_improveAll_5 : decode cX1_improveAll 5 = .ok (.if_icmp .ge 45, 3) := by decide +kernel
theorem dX1_improveAll_8 : decode cX1_improveAll 8 = .ok (.iconst 0, 1) := by decide +kernel
theorem dX1_improveAll_9 : decode cX1_improveAll 9 = .ok (.istore_n 3, 1) := by decide +kernel
theorem dX1_improveAll_10 : decode cX1_improveAll 10 = .ok (.iload_n 3, 1) := by decide +kernel
theorem dX1_improveAll_11 : decode cX1_improveAll 11 = .ok (.bipush 8, 2) := by decide +kernel
theorem dX1_improveAll_13 : decode cX1_improveAll 13 = .ok (.if_icmp .ge 31, 3) := by decide +kernel
theorem dX1_improveAll_16 : decode cX1_improveAll 16 = .ok (.aload_n 0, 1) := by decide +kernel
theorem dX1_improveAll_17 : decode cX1_improveAll 17 = .ok (.getfield 19, 3) := by decide +kernel
theorem dX1_improveAll_20 : decode cX1_improveAll 20 = .ok (.iload_n 2, 1) := by decide +kernel
theorem dX1_improveAll_21 : decode cX1_improveAll 21 = .ok (.bipush 8, 2) := by decide +kernel
theorem dX1_improveAll_23 : decode cX1_improveAll 23 = .ok (.imul, 1) := by decide +kernel
theorem dX1_improveAll_24 : decode cX1_improveAll 24 = .ok (.iload_n 3, 1) := by decide +kernel
theorem dX1_improveAll_25 : decode cX1_improveAll 25 = .ok (.iadd, 1) := by decide +kernel
theorem dX1_improveAll_26 : decode cX1_improveAll 26 = .ok (.iload_n 2, 1) := by decide +kernel
theorem dX1_improveAll_27 : decode cX1_improveAll 27 = .ok (.iload_n 3, 1) := by decide +kernel
theorem dX1_improveAll_28 : decode cX1_improveAll 28 = .ok (.if_icmp .ne 7, 3) := by decide +kernel
theorem dX1_improveAll_31 : decode cX1_improveAll 31 = .ok (.iconst 0, 1) := by decide +kernel
theorem dX1_improveAll_32 : decode cX1_improveAll 32 = .ok (.goto 5, 3) := by decide +kernel
theorem dX1_improveAll_35 : decode cX1_improveAll 35 = .ok (.ldc 22, 2) := by decide +kernel
theorem dX1_improveAll_37 : decode cX1_improveAll 37 = .ok (.iastore, 1) := by decide +kernel
theorem dX1_improveAll_38 : decode cX1_improveAll 38 = .ok (.iinc 3 1, 3) := by decide +kernel
theorem dX1_improveAll_41 : decode cX1_improveAll 41 = .ok (.goto (-31), 3) := by decide +kernel
theorem dX1_improveAll_44 : decode cX1_improveAll 44 = .ok (.iinc 2 1, 3) := by decide +kernel
theorem dX1_improveAll_47 : decode cX1_improveAll 47 = .ok (.goto (-45), 3) := by decide +kernel
theorem dX1_improveAll_50 : decode cX1_improveAll 50 = .ok (.iconst 0, 1) := by decide +kernel
theorem dX1_improveAll_51 : decode cX1_improveAll 51 = .ok (.istore_n 2, 1) := by decide +kernel
theorem dX1_improveAll_52 : decode cX1_improveAll 52 = .ok (.iload_n 2, 1) := by decide +kernel
theorem dX1_improveAll_53 : decode cX1_improveAll 53 = .ok (.aload_n 1, 1) := by decide +kernel
theorem dX1_improveAll_54 : decode cX1_improveAll 54 = .ok (.getfield 31, 3) := by decide +kernel
theorem dX1_improveAll_57 : decode cX1_improveAll 57 = .ok (.if_icmp .ge 37, 3) := by decide +kernel
theorem dX1_improveAll_60 : decode cX1_improveAll 60 = .ok (.iload_n 2, 1) := by decide +kernel
theorem dX1_improveAll_61 : decode cX1_improveAll 61 = .ok (.bipush 12, 2) := by decide +kernel
theorem dX1_improveAll_63 : decode cX1_improveAll 63 = .ok (.if_icmp .ge 31, 3) := by decide +kernel
theorem dX1_improveAll_66 : decode cX1_improveAll 66 = .ok (.aload_n 0, 1) := by decide +kernel
theorem dX1_improveAll_67 : decode cX1_improveAll 67 = .ok (.aload_n 1, 1) := by decide +kernel
theorem dX1_improveAll_68 : decode cX1_improveAll 68 = .ok (.getfield 49, 3) := by decide +kernel
theorem dX1_improveAll_71 : decode cX1_improveAll 71 = .ok (.iload_n 2, 1) := by decide +kernel
theorem dX1_improveAll_72 : decode cX1_improveAll 72 = .ok (.iaload, 1) := by decide +kernel
theorem dX1_improveAll_73 : decode cX1_improveAll 73 = .ok (.aload_n 1, 1) := by decide +kernel
theorem dX1_improveAll_74 : decode cX1_improveAll 74 = .ok (.getfield 52, 3) := by decide +kernel
theorem dX1_improveAll_77 : decode cX1_improveAll 77 = .ok (.iload_n 2, 1) := by decide +kernel
theorem dX1_improveAll_78 : decode cX1_improveAll 78 = .ok (.iaload, 1) := by decide +kernel
theorem dX1_improveAll_79 : decode cX1_improveAll 79 = .ok (.aload_n 1, 1) := by decide +kernel
theorem dX1_improveAll_80 : decode cX1_improveAll 80 = .ok (.getfield 41, 3) := by decide +kernel
theorem dX1_improveAll_83 : decode cX1_improveAll 83 = .ok (.iload_n 2, 1) := by decide +kernel
theorem dX1_improveAll_84 : decode cX1_improveAll 84 = .ok (.iaload, 1) := by decide +kernel
theorem dX1_improveAll_85 : decode cX1_improveAll 85 = .ok (.invokevirtual 55, 3) := by decide +kernel
theorem dX1_improveAll_88 : decode cX1_improveAll 88 = .ok (.iinc 2 1, 3) := by decide +kernel
theorem dX1_improveAll_91 : decode cX1_improveAll 91 = .ok (.goto (-39), 3) := by decide +kernel
theorem dX1_improveAll_94 : decode cX1_improveAll 94 = .ok (.iconst 0, 1) := by decide +kernel
theorem dX1_improveAll_95 : decode cX1_improveAll 95 = .ok (.istore_n 2, 1) := by decide +kernel
theorem dX1_improveAll_96 : decode cX1_improveAll 96 = .ok (.iload_n 2, 1) := by decide +kernel
theorem dX1_improveAll_97 : decode cX1_improveAll 97 = .ok (.bipush 8, 2) := by decide +kernel
theorem dX1_improveAll_99 : decode cX1_improveAll 99 = .ok (.if_icmp .ge 14, 3) := by decide +kernel
theorem dX1_improveAll_102 : decode cX1_improveAll 102 = .ok (.aload_n 0, 1) := by decide +kernel
theorem dX1_improveAll_103 : decode cX1_improveAll 103 = .ok (.iload_n 2, 1) := by decide +kernel
theorem dX1_improveAll_104 : decode cX1_improveAll 104 = .ok (.invokevirtual 59, 3) := by decide +kernel
theorem dX1_improveAll_107 : decode cX1_improveAll 107 = .ok (.iinc 2 1, 3) := by decide +kernel
theorem dX1_improveAll_110 : decode cX1_improveAll 110 = .ok (.goto (-14), 3) := by decide +kernel
theorem dX1_improveAll_113 : decode cX1_improveAll 113 = .ok (.return_, 1) := by decide +kernel
set_option maxRecDepth 20000 in
theorem ggX1_link_X6_isJunction : GoodIn wsX1_link wsX6_isJunction := goodIn_r _ [4] (by decide +kernel) (by decide +kernel)
set_option maxRecDepth 20000 in
theorem gX1_link_X6_isJunction_n27 : GoodIn wsX1_link (wsX6_isJunction) := ggX1_link_X6_isJunction
theorem dX1_link_0 : decode cX1_link 0 = .ok (.iload_n 1, 1) := by decide +kernel
theorem dX1_link_1 : decode cX1_link 1 = .ok (.invokestatic 27, 3) := by decide +kernel
theorem dX1_link_4 : decode cX1_link 4 = .ok (.ifCond .eq 34, 3) := by decide +kernel
theorem dX1_link_7 : decode cX1_link 7 = .ok (.iload_n 2, 1) := by decide +kernel
theorem dX1_link_8 : decode cX1_link 8 = .ok (.invokestatic 27, 3) := by decide +kernel
theorem dX1_link_11 : decode cX1_link 11 = .ok (.ifCond .eq 27, 3) := by decide +kernel
theorem dX1_link_14 : decode cX1_link 14 = .ok (.aload_n 0, 1) := by decide +kernel
theorem dX1_link_15 : decode cX1_link 15 = .ok (.getfield 19, 3) := by decide +kernel
theorem dX1_link_18 : decode cX1_link 18 = .ok (.iload_n 1, 1) := by decide +kernel
theorem dX1_link_19 : decode cX1_link 19 = .ok (.bipush 8, 2) := by decide +kernel
theorem dX1_link_21 : decode cX1_link 21 = .ok (.imul, 1) := by decide +kernel
theorem dX1_link_22 : decode cX1_link 22 = .ok (.iload_n 2, 1) := by decide +kernel
theorem dX1_link_23 : decode cX1_link 23 = .ok (.iadd, 1) := by decide +kernel
theorem dX1_link_24 : decode cX1_link 24 = .ok (.iload_n 3, 1) := by decide +kernel
theorem dX1_link_25 : decode cX1_link 25 = .ok (.iastore, 1) := by decide +kernel
theorem dX1_link_26 : decode cX1_link 26 = .ok (.aload_n 0, 1) := by decide +kernel
theorem dX1_link_27 : decode cX1_link 27 = .ok (.getfield 19, 3) := by decide +kernel
theorem dX1_link_30 : decode cX1_link 30 = .ok (.iload_n 2, 1) := by decide +kernel
theorem dX1_link_31 : decode cX1_link 31 = .ok (.bipush 8, 2) := by decide +kernel
theorem dX1_link_33 : decode cX1_link 33 = .ok (.imul, 1) := by decide +kernel
theorem dX1_link_34 : decode cX1_link 34 = .ok (.iload_n 1, 1) := by decide +kernel
theorem dX1_link_35 : decode cX1_link 35 = .ok (.iadd, 1) := by decide +kernel
theorem dX1_link_36 : decode cX1_link 36 = .ok (.iload_n 3, 1) := by decide +kernel
theorem dX1_link_37 : decode cX1_link 37 = .ok (.iastore, 1) := by decide +kernel
theorem dX1_link_38 : decode cX1_link 38 = .ok (.return_, 1) := by decide +kernel
set_option maxRecDepth 20000 in
theorem ggX1_improveBy_X1_between : GoodIn wsX1_improveBy wsX1_between := goodIn_ca (goodIn_r _ [6, 1, 7, 8, 9, 10, 11, 12, 13] (by decide +kernel) (by decide +kernel)) (goodIn_sub (fun _ h => List.mem_cons_of_mem _ (List.mem_append_right _ h)) (by decide +kernel))
set_option maxRecDepth 20000 in
theorem gX1_improveBy_X1_between : GoodIn wsX1_improveBy (wsV RX1 63 RX1 yX1_between wsX1_between) := goodIn_app (goodIn_of _ (by decide +kernel)) ggX1_improveBy_X1_between
theorem dX1_improveBy_0 : decode cX1_improveBy 0 = .ok (.iconst 0, 1) := by decide +kernel
theorem dX1_improveBy_1 : decode cX1_improveBy 1 = .ok (.istore_n 2, 1) := by decide +kernel
theorem dX1_improveBy_2 : decode cX1_improveBy 2 = .ok (.iload_n 2, 1) := by decide +kernel
theorem dX1_improveBy_3 : decode cX1_improveBy 3 = .ok (.bipush 8, 2) := by decide +kernel
theorem dX1_improveBy_5 : decode cX1_improveBy 5 = .ok (.if_icmp .ge 62, 3) := by decide +kernel
theorem dX1_improveBy_8 : decode cX1_improveBy 8 = .ok (.iconst 0, 1) := by decide +kernel
theorem dX1_improveBy_9 : decode cX1_improveBy 9 = .ok (.istore_n 3, 1) := by decide +kernel
theorem dX1_improveBy_10 : decode cX1_improveBy 10 = .ok (.iload_n 3, 1) := by decide +kernel
theorem dX1_improveBy_11 : decode cX1_improveBy 11 = .ok (.bipush 8, 2) := by decide +kernel
theorem dX1_improveBy_13 : decode cX1_improveBy 13 = .ok (.if_icmp .ge 48, 3) := by decide +kernel
theorem dX1_improveBy_16 : decode cX1_improveBy 16 = .ok (.aload_n 0, 1) := by decide +kernel
theorem dX1_improveBy_17 : decode cX1_improveBy 17 = .ok (.iload_n 2, 1) := by decide +kernel
theorem dX1_improveBy_18 : decode cX1_improveBy 18 = .ok (.iload_n 1, 1) := by decide +kernel
theorem dX1_improveBy_19 : decode cX1_improveBy 19 = .ok (.invokevirtual 63, 3) := by decide +kernel
theorem dX1_improveBy_22 : decode cX1_improveBy 22 = .ok (.aload_n 0, 1) := by decide +kernel
theorem dX1_improveBy_23 : decode cX1_improveBy 23 = .ok (.iload_n 1, 1) := by decide +kernel
theorem dX1_improveBy_24 : decode cX1_improveBy 24 = .ok (.iload_n 3, 1) := by decide +kernel
theorem dX1_improveBy_25 : decode cX1_improveBy 25 = .ok (.invokevirtual 63, 3) := by decide +kernel
theorem dX1_improveBy_28 : decode cX1_improveBy 28 = .ok (.iadd, 1) := by decide +kernel
theorem dX1_improveBy_29 : decode cX1_improveBy 29 = .ok (.istore 4, 2) := by decide +kernel
theorem dX1_improveBy_31 : decode cX1_improveBy 31 = .ok (.iload 4, 2) := by decide +kernel
theorem dX1_improveBy_33 : decode cX1_improveBy 33 = .ok (.aload_n 0, 1) := by decide +kernel
theorem dX1_improveBy_34 : decode cX1_improveBy 34 = .ok (.iload_n 2, 1) := by decide +kernel
theorem dX1_improveBy_35 : decode cX1_improveBy 35 = .ok (.iload_n 3, 1) := by decide +kernel
theorem dX1_improveBy_36 : decode cX1_improveBy 36 = .ok (.invokevirtual 63, 3) := by decide +kernel
theorem dX1_improveBy_39 : decode cX1_improveBy 39 = .ok (.if_icmp .ge 16, 3) := by decide +kernel
theorem dX1_improveBy_42 : decode cX1_improveBy 42 = .ok (.aload_n 0, 1) := by decide +kernel
theorem dX1_improveBy_43 : decode cX1_improveBy 43 = .ok (.getfield 19, 3) := by decide +kernel
theorem dX1_improveBy_46 : decode cX1_improveBy 46 = .ok (.iload_n 2, 1) := by decide +kernel
theorem dX1_improveBy_47 : decode cX1_improveBy 47 = .ok (.bipush 8, 2) := by decide +kernel
theorem dX1_improveBy_49 : decode cX1_improveBy 49 = .ok (.imul, 1) := by decide +kernel
theorem dX1_improveBy_50 : decode cX1_improveBy 50 = .ok (.iload_n 3, 1) := by decide +kernel
theorem dX1_improveBy_51 : decode cX1_improveBy 51 = .ok (.iadd, 1) := by decide +kernel
theorem dX1_improveBy_52 : decode cX1_improveBy 52 = .ok (.iload 4, 2) := by decide +kernel
theorem dX1_improveBy_54 : decode cX1_improveBy 54 = .ok (.iastore, 1) := by decide +kernel
theorem dX1_improveBy_55 : decode cX1_improveBy 55 = .ok (.iinc 3 1, 3) := by decide +kernel
theorem dX1_improveBy_58 : decode cX1_improveBy 58 = .ok (.goto (-48), 3) := by decide +kernel
theorem dX1_improveBy_61 : decode cX1_improveBy 61 = .ok (.iinc 2 1, 3) := by decide +kernel
theorem dX1_improveBy_64 : decode cX1_improveBy 64 = .ok (.goto (-62), 3) := by decide +kernel
theorem dX1_improveBy_67 : decode cX1_improveBy 67 = .ok (.return_, 1) := by decide +kernel
set_option maxRecDepth 20000 in
theorem ggX1_between_X6_isJunction : GoodIn wsX1_between wsX6_isJunction := goodIn_r _ [5] (by decide +kernel) (by decide +kernel)
set_option maxRecDepth 20000 in
theorem gX1_between_X6_isJunction_n27 : GoodIn wsX1_between (wsX6_isJunction) := ggX1_between_X6_isJunction
theorem dX1_between_0 : decode cX1_between 0 = .ok (.iload_n 1, 1) := by decide +kernel
theorem dX1_between_1 : decode cX1_between 1 = .ok (.invokestatic 27, 3) := by decide +kernel
theorem dX1_between_4 : decode cX1_between 4 = .ok (.ifCond .eq 24, 3) := by decide +kernel
theorem dX1_between_7 : decode cX1_between 7 = .ok (.iload_n 2, 1) := by decide +kernel
theorem dX1_between_8 : decode cX1_between 8 = .ok (.invokestatic 27, 3) := by decide +kernel
theorem dX1_between_11 : decode cX1_between 11 = .ok (.ifCond .eq 17, 3) := by decide +kernel
theorem dX1_between_14 : decode cX1_between 14 = .ok (.aload_n 0, 1) := by decide +kernel
theorem dX1_between_15 : decode cX1_between 15 = .ok (.getfield 19, 3) := by decide +kernel
theorem dX1_between_18 : decode cX1_between 18 = .ok (.iload_n 1, 1) := by decide +kernel
theorem dX1_between_19 : decode cX1_between 19 = .ok (.bipush 8, 2) := by decide +kernel
theorem dX1_between_21 : decode cX1_between 21 = .ok (.imul, 1) := by decide +kernel
theorem dX1_between_22 : decode cX1_between 22 = .ok (.iload_n 2, 1) := by decide +kernel
theorem dX1_between_23 : decode cX1_between 23 = .ok (.iadd, 1) := by decide +kernel
theorem dX1_between_24 : decode cX1_between 24 = .ok (.iaload, 1) := by decide +kernel
theorem dX1_between_25 : decode cX1_between 25 = .ok (.goto 5, 3) := by decide +kernel
theorem dX1_between_28 : decode cX1_between 28 = .ok (.ldc 22, 2) := by decide +kernel
theorem dX1_between_30 : decode cX1_between 30 = .ok (.ireturn, 1) := by decide +kernel
theorem dX2_init_0 : decode cX2_init 0 = .ok (.aload_n 0, 1) := by decide +kernel
theorem dX2_init_1 : decode cX2_init 1 = .ok (.invokespecial 3, 3) := by decide +kernel
theorem dX2_init_4 : decode cX2_init 4 = .ok (.aload_n 0, 1) := by decide +kernel
theorem dX2_init_5 : decode cX2_init 5 = .ok (.iconst 4, 1) := by decide +kernel
theorem dX2_init_6 : decode cX2_init 6 = .ok (.newarray .int, 2) := by decide +kernel
theorem dX2_init_8 : decode cX2_init 8 = .ok (.putfield 9, 3) := by decide +kernel
theorem dX2_init_11 : decode cX2_init 11 = .ok (.aload_n 0, 1) := by decide +kernel
theorem dX2_init_12 : decode cX2_init 12 = .ok (.iconst 4, 1) := by decide +kernel
theorem dX2_init_13 : decode cX2_init 13 = .ok (.newarray .int, 2) := by decide +kernel
theorem dX2_init_15 : decode cX2_init 15 = .ok (.putfield 15, 3) := by decide +kernel
theorem dX2_init_18 : decode cX2_init 18 = .ok (.aload_n 0, 1) := by decide +kernel
theorem dX2_init_19 : decode cX2_init 19 = .ok (.iconst 4, 1) := by decide +kernel
theorem dX2_init_20 : decode cX2_init 20 = .ok (.newarray .int, 2) := by decide +kernel
theorem dX2_init_22 : decode cX2_init 22 = .ok (.putfield 18, 3) := by decide +kernel
theorem dX2_init_25 : decode cX2_init 25 = .ok (.aload_n 0, 1) := by decide +kernel
theorem dX2_init_26 : decode cX2_init 26 = .ok (.iconst 4, 1) := by decide +kernel
theorem dX2_init_27 : decode cX2_init 27 = .ok (.newarray .int, 2) := by decide +kernel
theorem dX2_init_29 : decode cX2_init 29 = .ok (.putfield 21, 3) := by decide +kernel
theorem dX2_init_32 : decode cX2_init 32 = .ok (.aload_n 0, 1) := by decide +kernel
theorem dX2_init_33 : decode cX2_init 33 = .ok (.bipush 20, 2) := by decide +kernel
theorem dX2_init_35 : decode cX2_init 35 = .ok (.newarray .int, 2) := by decide +kernel
theorem dX2_init_37 : decode cX2_init 37 = .ok (.putfield 24, 3) := by decide +kernel
theorem dX2_init_40 : decode cX2_init 40 = .ok (.return_, 1) := by decide +kernel
theorem dX2_has_0 : decode cX2_has 0 = .ok (.iload_n 1, 1) := by decide +kernel
theorem dX2_has_1 : decode cX2_has 1 = .ok (.ifCond .lt 20, 3) := by decide +kernel
theorem dX2_has_4 : decode cX2_has 4 = .ok (.iload_n 1, 1) := by decide +kernel
theorem dX2_has_5 : decode cX2_has 5 = .ok (.aload_n 0, 1) := by decide +kernel
theorem dX2_has_6 : decode cX2_has 6 = .ok (.getfield 27, 3) := by decide +kernel
theorem dX2_has_9 : decode cX2_has 9 = .ok (.if_icmp .ge 12, 3) := by decide +kernel
theorem dX2_has_12 : decode cX2_has 12 = .ok (.iload_n 1, 1) := by decide +kernel
theorem dX2_has_13 : decode cX2_has 13 = .ok (.iconst 4, 1) := by decide +kernel
theorem dX2_has_14 : decode cX2_has 14 = .ok (.if_icmp .ge 7, 3) := by decide +kernel
theorem dX2_has_17 : decode cX2_has 17 = .ok (.iconst 1, 1) := by decide +kernel
theorem dX2_has_18 : decode cX2_has 18 = .ok (.goto 4, 3) := by decide +kernel
theorem dX2_has_21 : decode cX2_has 21 = .ok (.iconst 0, 1) := by decide +kernel
theorem dX2_has_22 : decode cX2_has 22 = .ok (.ireturn, 1) := by decide +kernel
theorem dX2_copyFrom_0 : decode cX2_copyFrom 0 = .ok (.aload_n 1, 1) := by decide +kernel
theorem dX2_copyFrom_1 : decode cX2_copyFrom 1 = .ok (.getfield 9, 3) := by decide +kernel
theorem dX2_copyFrom_4 : decode cX2_copyFrom 4 = .ok (.iconst 0, 1) := by decide +kernel
theorem dX2_copyFrom_5 : decode cX2_copyFrom 5 = .ok (.aload_n 0, 1) := by decide +kernel
theorem dX2_copyFrom_6 : decode cX2_copyFrom 6 = .ok (.getfield 9, 3) := by decide +kernel
theorem dX2_copyFrom_9 : decode cX2_copyFrom 9 = .ok (.iconst 0, 1) := by decide +kernel
theorem dX2_copyFrom_10 : decode cX2_copyFrom 10 = .ok (.iconst 4, 1) := by decide +kernel
theorem dX2_copyFrom_11 : decode cX2_copyFrom 11 = .ok (.invokestatic 31, 3) := by decide +kernel
theorem dX2_copyFrom_14 : decode cX2_copyFrom 14 = .ok (.aload_n 1, 1) := by decide +kernel
theorem dX2_copyFrom_15 : decode cX2_copyFrom 15 = .ok (.getfield 15, 3) := by decide +kernel
theorem dX2_copyFrom_18 : decode cX2_copyFrom 18 = .ok (.iconst 0, 1) := by decide +kernel
theorem dX2_copyFrom_19 : decode cX2_copyFrom 19 = .ok (.aload_n 0, 1) := by decide +kernel
theorem dX2_copyFrom_20 : decode cX2_copyFrom 20 = .ok (.getfield 15, 3) := by decide +kernel
theorem dX2_copyFrom_23 : decode cX2_copyFrom 23 = .ok (.iconst 0, 1) := by decide +kernel
theorem dX2_copyFrom_24 : decode cX2_copyFrom 24 = .ok (.iconst 4, 1) := by decide +kernel
theorem dX2_copyFrom_25 : decode cX2_copyFrom 25 = .ok (.invokestatic 31, 3) := by decide +kernel
theorem dX2_copyFrom_28 : decode cX2_copyFrom 28 = .ok (.aload_n 1, 1) := by decide +kernel
theorem dX2_copyFrom_29 : decode cX2_copyFrom 29 = .ok (.getfield 18, 3) := by decide +kernel
theorem dX2_copyFrom_32 : decode cX2_copyFrom 32 = .ok (.iconst 0, 1) := by decide +kernel
theorem dX2_copyFrom_33 : decode cX2_copyFrom 33 = .ok (.aload_n 0, 1) := by decide +kernel
theorem dX2_copyFrom_34 : decode cX2_copyFrom 34 = .ok (.getfield 18, 3) := by decide +kernel
theorem dX2_copyFrom_37 : decode cX2_copyFrom 37 = .ok (.iconst 0, 1) := by decide +kernel
theorem dX2_copyFrom_38 : decode cX2_copyFrom 38 = .ok (.iconst 4, 1) := by decide +kernel
theorem dX2_copyFrom_39 : decode cX2_copyFrom 39 = .ok (.invokestatic 31, 3) := by decide +kernel
theorem dX2_copyFrom_42 : decode cX2_copyFrom 42 = .ok (.aload_n 1, 1) := by decide +kernel
theorem dX2_copyFrom_43 : decode cX2_copyFrom 43 = .ok (.getfield 21, 3) := by decide +kernel
theorem dX2_copyFrom_46 : decode cX2_copyFrom 46 = .ok (.iconst 0, 1) := by decide +kernel
theorem dX2_copyFrom_47 : decode cX2_copyFrom 47 = .ok (.aload_n 0, 1) := by decide +kernel
theorem dX2_copyFrom_48 : decode cX2_copyFrom 48 = .ok (.getfield 21, 3) := by decide +kernel
theorem dX2_copyFrom_51 : decode cX2_copyFrom 51 = .ok (.iconst 0, 1) := by decide +kernel
theorem dX2_copyFrom_52 : decode cX2_copyFrom 52 = .ok (.iconst 4, 1) := by decide +kernel
theorem dX2_copyFrom_53 : decode cX2_copyFrom 53 = .ok (.invokestatic 31, 3) := by decide +kernel
theorem dX2_copyFrom_56 : decode cX2_copyFrom 56 = .ok (.aload_n 1, 1) := by decide +kernel
theorem dX2_copyFrom_57 : decode cX2_copyFrom 57 = .ok (.getfield 24, 3) := by decide +kernel
theorem dX2_copyFrom_60 : decode cX2_copyFrom 60 = .ok (.iconst 0, 1) := by decide +kernel
theorem dX2_copyFrom_61 : decode cX2_copyFrom 61 = .ok (.aload_n 0, 1) := by decide +kernel
theorem dX2_copyFrom_62 : decode cX2_copyFrom 62 = .ok (.getfield 24, 3) := by decide +kernel
theorem dX2_copyFrom_65 : decode cX2_copyFrom 65 = .ok (.iconst 0, 1) := by decide +kernel
theorem dX2_copyFrom_66 : decode cX2_copyFrom 66 = .ok (.bipush 20, 2) := by decide +kernel
theorem dX2_copyFrom_68 : decode cX2_copyFrom 68 = .ok (.invokestatic 31, 3) := by decide +kernel
theorem dX2_copyFrom_71 : decode cX2_copyFrom 71 = .ok (.aload_n 0, 1) := by decide +kernel
theorem dX2_copyFrom_72 : decode cX2_copyFrom 72 = .ok (.aload_n 1, 1) := by decide +kernel
theorem dX2_copyFrom_73 : decode cX2_copyFrom 73 = .ok (.getfield 27, 3) := by decide +kernel
theorem dX2_copyFrom_76 : decode cX2_copyFrom 76 = .ok (.putfield 27, 3) := by decide +kernel
theorem dX2_copyFrom_79 : decode cX2_copyFrom 79 = .ok (.return_, 1) := by decide +kernel
theorem dX2_put_0 : decode cX2_put 0 = .ok (.aload_n 0, 1) := by decide +kernel
theorem dX2_put_1 : decode cX2_put 1 = .ok (.getfield 27, 3) := by decide +kernel
theorem dX2_put_4 : decode cX2_put 4 = .ok (.ifCond .lt 11, 3) := by decide +kernel
theorem dX2_put_7 : decode cX2_put 7 = .ok (.aload_n 0, 1) := by decide +kernel
theorem dX2_put_8 : decode cX2_put 8 = .ok (.getfield 27, 3) := by decide +kernel
theorem dX2_put_11 : decode cX2_put 11 = .ok (.iconst 4, 1) := by decide +kernel
theorem dX2_put_12 : decode cX2_put 12 = .ok (.if_icmp .lt 6, 3) := by decide +kernel
theorem dX2_put_15 : decode cX2_put 15 = .ok (.bipush (-4), 2) := by decide +kernel
theorem dX2_put_17 : decode cX2_put 17 = .ok (.ireturn, 1) := by decide +kernel
theorem dX2_put_18 : decode cX2_put 18 = .ok (.aload_n 0, 1) := by decide +kernel
theorem dX2_put_19 : decode cX2_put 19 = .ok (.getfield 27, 3) := by decide +kernel
theorem dX2_put_22 : decode cX2_put 22 = .ok (.istore_n 2, 1) := by decide +kernel
theorem dX2_put_23 : decode cX2_put 23 = .ok (.aload_n 0, 1) := by decide +kernel
theorem dX2_put_24 : decode cX2_put 24 = .ok (.getfield 9, 3) := by decide +kernel
theorem dX2_put_27 : decode cX2_put 27 = .ok (.iload_n 2, 1) := by decide +kernel
theorem dX2_put_28 : decode cX2_put 28 = .ok (.iload_n 1, 1) := by decide +kernel
theorem dX2_put_29 : decode cX2_put 29 = .ok (.iastore, 1) := by decide +kernel
theorem dX2_put_30 : decode cX2_put 30 = .ok (.aload_n 0, 1) := by decide +kernel
theorem dX2_put_31 : decode cX2_put 31 = .ok (.getfield 15, 3) := by decide +kernel
theorem dX2_put_34 : decode cX2_put 34 = .ok (.iload_n 2, 1) := by decide +kernel
theorem dX2_put_35 : decode cX2_put 35 = .ok (.iconst (-1), 1) := by decide +kernel
theorem dX2_put_36 : decode cX2_put 36 = .ok (.iastore, 1) := by decide +kernel
theorem dX2_put_37 : decode cX2_put 37 = .ok (.aload_n 0, 1) := by decide +kernel
theorem dX2_put_38 : decode cX2_put 38 = .ok (.getfield 18, 3) := by decide +kernel
theorem dX2_put_41 : decode cX2_put 41 = .ok (.iload_n 2, 1) := by decide +kernel
theorem dX2_put_42 : decode cX2_put 42 = .ok (.iconst 0, 1) := by decide +kernel
theorem dX2_put_43 : decode cX2_put 43 = .ok (.iastore, 1) := by decide +kernel
theorem dX2_put_44 : decode cX2_put 44 = .ok (.aload_n 0, 1) := by decide +kernel
theorem dX2_put_45 : decode cX2_put 45 = .ok (.getfield 21, 3) := by decide +kernel
theorem dX2_put_48 : decode cX2_put 48 = .ok (.iload_n 2, 1) := by decide +kernel
theorem dX2_put_49 : decode cX2_put 49 = .ok (.iconst 0, 1) := by decide +kernel
theorem dX2_put_50 : decode cX2_put 50 = .ok (.iastore, 1) := by decide +kernel
theorem dX2_put_51 : decode cX2_put 51 = .ok (.aload_n 0, 1) := by decide +kernel
theorem dX2_put_52 : decode cX2_put 52 = .ok (.dup, 1) := by decide +kernel
theorem dX2_put_53 : decode cX2_put 53 = .ok (.getfield 27, 3) := by decide +kernel
theorem dX2_put_56 : decode cX2_put 56 = .ok (.iconst 1, 1) := by decide +kernel
theorem dX2_put_57 : decode cX2_put 57 = .ok (.iadd, 1) := by decide +kernel
theorem dX2_put_58 : decode cX2_put 58 = .ok (.putfield 27, 3) := by decide +kernel
theorem dX2_put_61 : decode cX2_put 61 = .ok (.iload_n 2, 1) := by decide +kernel
theorem dX2_put_62 : decode cX2_put 62 = .ok (.ireturn, 1) := by decide +kernel
set_option maxRecDepth 20000 in
theorem ggX2_waitingAt_X2_has : GoodIn wsX2_waitingAt wsX2_has := goodIn_r _ [7, 8, 9, 10, 11, 12, 13, 14] (by decide +kernel) (by decide +kernel)
set_option maxRecDepth 20000 in
theorem gX2_waitingAt_X2_has : GoodIn wsX2_waitingAt (wsV RX2 37 RX2 yX2_has wsX2_has) := goodIn_app (goodIn_of _ (by decide +kernel)) ggX2_waitingAt_X2_has
theorem dX2_waitingAt_0 : decode cX2_waitingAt 0 = .ok (.aload_n 0, 1) := by decide +kernel
theorem dX2_waitingAt_1 : decode cX2_waitingAt 1 = .ok (.iload_n 1, 1) := by decide +kernel
theorem dX2_waitingAt_2 : decode cX2_waitingAt 2 = .ok (.invokevirtual 37, 3) := by decide +kernel
theorem dX2_waitingAt_5 : decode cX2_waitingAt 5 = .ok (.ifCond .eq 22, 3) := by decide +kernel
theorem dX2_waitingAt_8 : decode cX2_waitingAt 8 = .ok (.iload_n 2, 1) := by decide +kernel
theorem dX2_waitingAt_9 : decode cX2_waitingAt 9 = .ok (.ifCond .lt 18, 3) := by decide +kernel
theorem dX2_waitingAt_12 : decode cX2_waitingAt 12 = .ok (.iload_n 2, 1) := by decide +kernel
theorem dX2_waitingAt_13 : decode cX2_waitingAt 13 = .ok (.aload_n 0, 1) := by decide +kernel
theorem dX2_waitingAt_14 : decode cX2_waitingAt 14 = .ok (.getfield 21, 3) := by decide +kernel
theorem dX2_waitingAt_17 : decode cX2_waitingAt 17 = .ok (.iload_n 1, 1) := by decide +kernel
theorem dX2_waitingAt_18 : decode cX2_waitingAt 18 = .ok (.iaload, 1) := by decide +kernel
theorem dX2_waitingAt_19 : decode cX2_waitingAt 19 = .ok (.if_icmp .ge 8, 3) := by decide +kernel
theorem dX2_waitingAt_22 : decode cX2_waitingAt 22 = .ok (.iload_n 2, 1) := by decide +kernel
theorem dX2_waitingAt_23 : decode cX2_waitingAt 23 = .ok (.iconst 5, 1) := by decide +kernel
theorem dX2_waitingAt_24 : decode cX2_waitingAt 24 = .ok (.if_icmp .lt 5, 3) := by decide +kernel
theorem dX2_waitingAt_27 : decode cX2_waitingAt 27 = .ok (.iconst (-1), 1) := by decide +kernel
theorem dX2_waitingAt_28 : decode cX2_waitingAt 28 = .ok (.ireturn, 1) := by decide +kernel
theorem dX2_waitingAt_29 : decode cX2_waitingAt 29 = .ok (.aload_n 0, 1) := by decide +kernel
theorem dX2_waitingAt_30 : decode cX2_waitingAt 30 = .ok (.getfield 24, 3) := by decide +kernel
theorem dX2_waitingAt_33 : decode cX2_waitingAt 33 = .ok (.iload_n 1, 1) := by decide +kernel
theorem dX2_waitingAt_34 : decode cX2_waitingAt 34 = .ok (.iconst 5, 1) := by decide +kernel
theorem dX2_waitingAt_35 : decode cX2_waitingAt 35 = .ok (.imul, 1) := by decide +kernel
theorem dX2_waitingAt_36 : decode cX2_waitingAt 36 = .ok (.iload_n 2, 1) := by decide +kernel
theorem dX2_waitingAt_37 : decode cX2_waitingAt 37 = .ok (.iadd, 1) := by decide +kernel
theorem dX2_waitingAt_38 : decode cX2_waitingAt 38 = .ok (.iaload, 1) := by decide +kernel
theorem dX2_waitingAt_39 : decode cX2_waitingAt 39 = .ok (.ireturn, 1) := by decide +kernel
set_option maxRecDepth 20000 in
theorem ggX2_append_X2_has : GoodIn wsX2_append wsX2_has := goodIn_r _ [7, 8, 9, 10, 11, 12, 13, 14] (by decide +kernel) (by decide +kernel)
set_option maxRecDepth 20000 in
theorem gX2_append_X2_has : GoodIn wsX2_append (wsV RX2 37 RX2 yX2_has wsX2_has) := goodIn_app (goodIn_of _ (by decide +kernel)) ggX2_append_X2_has
theorem dX2_append_0 : decode cX2_append 0 = .ok (.aload_n 0, 1) := by decide +kernel
theorem dX2_append_1 : decode cX2_append 1 = .ok (.iload_n 1, 1) := by decide +kernel
theorem dX2_append_2 : decode cX2_append 2 = .ok (.invokevirtual 37, 3) := by decide +kernel
theorem dX2_append_5 : decode cX2_append 5 = .ok (.ifCond .ne 5, 3) := by decide +kernel
theorem dX2_append_8 : decode cX2_append 8 = .ok (.iconst (-1), 1) := by decide +kernel
theorem dX2_append_9 : decode cX2_append 9 = .ok (.ireturn, 1) := by decide +kernel
theorem dX2_append_10 : decode cX2_append 10 = .ok (.aload_n 0, 1) := by decide +kernel
theorem dX2_append_11 : decode cX2_append 11 = .ok (.getfield 21, 3) := by decide +kernel
theorem dX2_append_14 : decode cX2_append 14 = .ok (.iload_n 1, 1) := by decide +kernel
theorem dX2_append_15 : decode cX2_append 15 = .ok (.iaload, 1) := by decide +kernel
theorem dX2_append_16 : decode cX2_append 16 = .ok (.istore_n 3, 1) := by decide +kernel
theorem dX2_append_17 : decode cX2_append 17 = .ok (.iload_n 3, 1) := by decide +kernel
theorem dX2_append_18 : decode cX2_append 18 = .ok (.ifCond .lt 8, 3) := by decide +kernel
theorem dX2_append_21 : decode cX2_append 21 = .ok (.iload_n 3, 1) := by decide +kernel
theorem dX2_append_22 : decode cX2_append 22 = .ok (.iconst 5, 1) := by decide +kernel
theorem dX2_append_23 : decode cX2_append 23 = .ok (.if_icmp .lt 6, 3) := by decide +kernel
theorem dX2_append_26 : decode cX2_append 26 = .ok (.bipush (-4), 2) := by decide +kernel
theorem dX2_append_28 : decode cX2_append 28 = .ok (.ireturn, 1) := by decide +kernel
theorem dX2_append_29 : decode cX2_append 29 = .ok (.aload_n 0, 1) := by decide +kernel
theorem dX2_append_30 : decode cX2_append 30 = .ok (.getfield 24, 3) := by decide +kernel
theorem dX2_append_33 : decode cX2_append 33 = .ok (.iload_n 1, 1) := by decide +kernel
theorem dX2_append_34 : decode cX2_append 34 = .ok (.iconst 5, 1) := by decide +kernel
theorem dX2_append_35 : decode cX2_append 35 = .ok (.imul, 1) := by decide +kernel
theorem dX2_append_36 : decode cX2_append 36 = .ok (.iload_n 3, 1) := by decide +kernel
theorem dX2_append_37 : decode cX2_append 37 = .ok (.iadd, 1) := by decide +kernel
theorem dX2_append_38 : decode cX2_append 38 = .ok (.iload_n 2, 1) := by decide +kernel
theorem dX2_append_39 : decode cX2_append 39 = .ok (.iastore, 1) := by decide +kernel
theorem dX2_append_40 : decode cX2_append 40 = .ok (.aload_n 0, 1) := by decide +kernel
theorem dX2_append_41 : decode cX2_append 41 = .ok (.getfield 21, 3) := by decide +kernel
theorem dX2_append_44 : decode cX2_append 44 = .ok (.iload_n 1, 1) := by decide +kernel
theorem dX2_append_45 : decode cX2_append 45 = .ok (.dup2, 1) := by decide +kernel
theorem dX2_append_46 : decode cX2_append 46 = .ok (.iaload, 1) := by decide +kernel
theorem dX2_append_47 : decode cX2_append 47 = .ok (.iconst 1, 1) := by decide +kernel
theorem dX2_append_48 : decode cX2_append 48 = .ok (.iadd, 1) := by decide +kernel
theorem dX2_append_49 : decode cX2_append 49 = .ok (.iastore, 1) := by decide +kernel
theorem dX2_append_50 : decode cX2_append 50 = .ok (.aload_n 0, 1) := by decide +kernel
theorem dX2_append_51 : decode cX2_append 51 = .ok (.getfield 21, 3) := by decide +kernel
theorem dX2_append_54 : decode cX2_append 54 = .ok (.iload_n 1, 1) := by decide +kernel
theorem dX2_append_55 : decode cX2_append 55 = .ok (.iaload, 1) := by decide +kernel
theorem dX2_append_56 : decode cX2_append 56 = .ok (.ireturn, 1) := by decide +kernel
set_option maxRecDepth 20000 in
theorem ggX2_removeLast_X2_has : GoodIn wsX2_removeLast wsX2_has := goodIn_r _ [6, 7, 13, 14, 15, 16, 17, 18] (by decide +kernel) (by decide +kernel)
set_option maxRecDepth 20000 in
theorem gX2_removeLast_X2_has : GoodIn wsX2_removeLast (wsV RX2 37 RX2 yX2_has wsX2_has) := goodIn_app (goodIn_of _ (by decide +kernel)) ggX2_removeLast_X2_has
set_option maxRecDepth 20000 in
theorem ggX2_removeLast_X2_waitingAt : GoodIn wsX2_removeLast wsX2_waitingAt := goodIn_ca (goodIn_r _ [11, 1, 12, 2, 3, 4, 5, 6, 7, 13, 14, 15, 16, 17, 18] (by decide +kernel) (by decide +kernel)) (goodIn_sub (fun _ h => List.mem_cons_of_mem _ (List.mem_append_right _ h)) (by decide +kernel))
set_option maxRecDepth 20000 in
theorem gX2_removeLast_X2_waitingAt : GoodIn wsX2_removeLast (wsV RX2 41 RX2 yX2_waitingAt wsX2_waitingAt) := goodIn_app (goodIn_of _ (by decide +kernel)) ggX2_removeLast_X2_waitingAt
theorem dX2_removeLast_0 : decode cX2_removeLast 0 = .ok (.aload_n 0, 1) := by decide +kernel
theorem dX2_removeLast_1 : decode cX2_removeLast 1 = .ok (.iload_n 1, 1) := by decide +kernel
theorem dX2_removeLast_2 : decode cX2_removeLast 2 = .ok (.invokevirtual 37, 3) := by decide +kernel
theorem dX2_removeLast_5 : decode cX2_removeLast 5 = .ok (.ifCond .ne 5, 3) := by decide +kernel
theorem dX2_removeLast_8 : decode cX2_removeLast 8 = .ok (.iconst (-1), 1) := by decide +kernel
theorem dX2_removeLast_9 : decode cX2_removeLast 9 = .ok (.ireturn, 1) := by decide +kernel
theorem dX2_removeLast_10 : decode cX2_removeLast 10 = .ok (.aload_n 0, 1) := by decide +kernel
theorem dX2_removeLast_11 : decode cX2_removeLast 11 = .ok (.iload_n 1, 1) := by decide +kernel
theorem dX2_removeLast_12 : decode cX2_removeLast 12 = .ok (.aload_n 0, 1) := by decide +kernel
theorem dX2_removeLast_13 : decode cX2_removeLast 13 = .ok (.getfield 21, 3) := by decide +kernel
theorem dX2_removeLast_16 : decode cX2_removeLast 16 = .ok (.iload_n 1, 1) := by decide +kernel
theorem dX2_removeLast_17 : decode cX2_removeLast 17 = .ok (.iaload, 1) := by decide +kernel
theorem dX2_removeLast_18 : decode cX2_removeLast 18 = .ok (.iconst 1, 1) := by decide +kernel
theorem dX2_removeLast_19 : decode cX2_removeLast 19 = .ok (.isub, 1) := by decide +kernel
theorem dX2_removeLast_20 : decode cX2_removeLast 20 = .ok (.invokevirtual 41, 3) := by decide +kernel
theorem dX2_removeLast_23 : decode cX2_removeLast 23 = .ok (.istore_n 2, 1) := by decide +kernel
theorem dX2_removeLast_24 : decode cX2_removeLast 24 = .ok (.iload_n 2, 1) := by decide +kernel
theorem dX2_removeLast_25 : decode cX2_removeLast 25 = .ok (.ifCond .ge 6, 3) := by decide +kernel
theorem dX2_removeLast_28 : decode cX2_removeLast 28 = .ok (.bipush (-5), 2) := by decide +kernel
theorem dX2_removeLast_30 : decode cX2_removeLast 30 = .ok (.ireturn, 1) := by decide +kernel
theorem dX2_removeLast_31 : decode cX2_removeLast 31 = .ok (.aload_n 0, 1) := by decide +kernel
theorem dX2_removeLast_32 : decode cX2_removeLast 32 = .ok (.getfield 21, 3) := by decide +kernel
theorem dX2_removeLast_35 : decode cX2_removeLast 35 = .ok (.iload_n 1, 1) := by decide +kernel
theorem dX2_removeLast_36 : decode cX2_removeLast 36 = .ok (.dup2, 1) := by decide +kernel
theorem dX2_removeLast_37 : decode cX2_removeLast 37 = .ok (.iaload, 1) := by decide +kernel
theorem dX2_removeLast_38 : decode cX2_removeLast 38 = .ok (.iconst 1, 1) := by decide +kernel
theorem dX2_removeLast_39 : decode cX2_removeLast 39 = .ok (.isub, 1) := by decide +kernel
theorem dX2_removeLast_40 : decode cX2_removeLast 40 = .ok (.iastore, 1) := by decide +kernel
theorem dX2_removeLast_41 : decode cX2_removeLast 41 = .ok (.iload_n 2, 1) := by decide +kernel
theorem dX2_removeLast_42 : decode cX2_removeLast 42 = .ok (.ireturn, 1) := by decide +kernel
set_option maxRecDepth 20000 in
theorem ggX2_canBegin_X2_has : GoodIn wsX2_canBegin wsX2_has := goodIn_r _ [7, 8, 9, 10, 11, 12, 13, 14] (by decide +kernel) (by decide +kernel)
set_option maxRecDepth 20000 in
theorem gX2_canBegin_X2_has : GoodIn wsX2_canBegin (wsV RX2 37 RX2 yX2_has wsX2_has) := goodIn_app (goodIn_of _ (by decide +kernel)) ggX2_canBegin_X2_has
theorem dX2_canBegin_0 : decode cX2_canBegin 0 = .ok (.aload_n 0, 1) := by decide +kernel
theorem dX2_canBegin_1 : decode cX2_canBegin 1 = .ok (.iload_n 1, 1) := by decide +kernel
theorem dX2_canBegin_2 : decode cX2_canBegin 2 = .ok (.invokevirtual 37, 3) := by decide +kernel
theorem dX2_canBegin_5 : decode cX2_canBegin 5 = .ok (.ifCond .eq 25, 3) := by decide +kernel
theorem dX2_canBegin_8 : decode cX2_canBegin 8 = .ok (.aload_n 0, 1) := by decide +kernel
theorem dX2_canBegin_9 : decode cX2_canBegin 9 = .ok (.getfield 18, 3) := by decide +kernel
theorem dX2_canBegin_12 : decode cX2_canBegin 12 = .ok (.iload_n 1, 1) := by decide +kernel
theorem dX2_canBegin_13 : decode cX2_canBegin 13 = .ok (.iaload, 1) := by decide +kernel
theorem dX2_canBegin_14 : decode cX2_canBegin 14 = .ok (.ifCond .ne 16, 3) := by decide +kernel
theorem dX2_canBegin_17 : decode cX2_canBegin 17 = .ok (.aload_n 0, 1) := by decide +kernel
theorem dX2_canBegin_18 : decode cX2_canBegin 18 = .ok (.getfield 21, 3) := by decide +kernel
theorem dX2_canBegin_21 : decode cX2_canBegin 21 = .ok (.iload_n 1, 1) := by decide +kernel
theorem dX2_canBegin_22 : decode cX2_canBegin 22 = .ok (.iaload, 1) := by decide +kernel
theorem dX2_canBegin_23 : decode cX2_canBegin 23 = .ok (.ifCond .le 7, 3) := by decide +kernel
theorem dX2_canBegin_26 : decode cX2_canBegin 26 = .ok (.iconst 1, 1) := by decide +kernel
theorem dX2_canBegin_27 : decode cX2_canBegin 27 = .ok (.goto 4, 3) := by decide +kernel
theorem dX2_canBegin_30 : decode cX2_canBegin 30 = .ok (.iconst 0, 1) := by decide +kernel
theorem dX2_canBegin_31 : decode cX2_canBegin 31 = .ok (.ireturn, 1) := by decide +kernel
set_option maxRecDepth 20000 in
theorem ggX2_removeFirst_X2_waitingAt : GoodIn wsX2_removeFirst wsX2_waitingAt := goodIn_ca (goodIn_r _ [7, 2, 1, 8, 9, 10, 6, 11, 12, 13, 14, 15, 16, 17, 18] (by decide +kernel) (by decide +kernel)) (goodIn_sub (fun _ h => List.mem_cons_of_mem _ (List.mem_append_right _ h)) (by decide +kernel))
set_option maxRecDepth 20000 in
theorem gX2_removeFirst_X2_waitingAt : GoodIn wsX2_removeFirst (wsV RX2 41 RX2 yX2_waitingAt wsX2_waitingAt) := goodIn_app (goodIn_of _ (by decide +kernel)) ggX2_removeFirst_X2_waitingAt
set_option maxRecDepth 20000 in
theorem ggX2_removeFirst_X2_has : GoodIn wsX2_removeFirst wsX2_has := goodIn_r _ [11, 12, 13, 14, 15, 16, 17, 18] (by decide +kernel) (by decide +kernel)
set_option maxRecDepth 20000 in
theorem gX2_removeFirst_X2_has : GoodIn wsX2_removeFirst (wsV RX2 37 RX2 yX2_has wsX2_has) := goodIn_app (goodIn_of _ (by decide +kernel)) ggX2_removeFirst_X2_has
theorem dX2_removeFirst_0 : decode cX2_removeFirst 0 = .ok (.aload_n 0, 1) := by decide +kernel
theorem dX2_removeFirst_1 : decode cX2_removeFirst 1 = .ok (.iload_n 1, 1) := by decide +kernel
theorem dX2_removeFirst_2 : decode cX2_removeFirst 2 = .ok (.iconst 0, 1) := by decide +kernel
theorem dX2_removeFirst_3 : decode cX2_removeFirst 3 = .ok (.invokevirtual 41, 3) := by decide +kernel
theorem dX2_removeFirst_6 : decode cX2_removeFirst 6 = .ok (.istore_n 2, 1) := by decide +kernel
theorem dX2_removeFirst_7 : decode cX2_removeFirst 7 = .ok (.aload_n 0, 1) := by decide +kernel
theorem dX2_removeFirst_8 : decode cX2_removeFirst 8 = .ok (.iload_n 1, 1) := by decide +kernel
theorem dX2_removeFirst_9 : decode cX2_removeFirst 9 = .ok (.invokevirtual 37, 3) := by decide +kernel
theorem dX2_removeFirst_12 : decode cX2_removeFirst 12 = .ok (.ifCond .eq 7, 3) := by decide +kernel
theorem dX2_removeFirst_15 : decode cX2_removeFirst 15 = .ok (.iload_n 2, 1) := by decide +kernel
theorem dX2_removeFirst_16 : decode cX2_removeFirst 16 = .ok (.ifCond .ge 5, 3) := by decide +kernel
theorem dX2_removeFirst_19 : decode cX2_removeFirst 19 = .ok (.iconst (-1), 1) := by decide +kernel
theorem dX2_removeFirst_20 : decode cX2_removeFirst 20 = .ok (.ireturn, 1) := by decide +kernel
theorem dX2_removeFirst_21 : decode cX2_removeFirst 21 = .ok (.iload_n 1, 1) := by decide +kernel
theorem dX2_removeFirst_22 : decode cX2_removeFirst 22 = .ok (.iconst 5, 1) := by decide +kernel
theorem dX2_removeFirst_23 : decode cX2_removeFirst 23 = .ok (.imul, 1) := by decide +kernel
theorem dX2_removeFirst_24 : decode cX2_removeFirst 24 = .ok (.istore_n 3, 1) := by decide +kernel
theorem dX2_removeFirst_25 : decode cX2_removeFirst 25 = .ok (.iconst 1, 1) := by decide +kernel
theorem dX2_removeFirst_26 : decode cX2_removeFirst 26 = .ok (.istore 4, 2) := by decide +kernel
theorem dX2_removeFirst_28 : decode cX2_removeFirst 28 = .ok (.iload 4, 2) := by decide +kernel
theorem dX2_removeFirst_30 : decode cX2_removeFirst 30 = .ok (.iconst 5, 1) := by decide +kernel
theorem dX2_removeFirst_31 : decode cX2_removeFirst 31 = .ok (.if_icmp .ge 29, 3) := by decide +kernel
theorem dX2_removeFirst_34 : decode cX2_removeFirst 34 = .ok (.aload_n 0, 1) := by decide +kernel
theorem dX2_removeFirst_35 : decode cX2_removeFirst 35 = .ok (.getfield 24, 3) := by decide +kernel
theorem dX2_removeFirst_38 : decode cX2_removeFirst 38 = .ok (.iload_n 3, 1) := by decide +kernel
theorem dX2_removeFirst_39 : decode cX2_removeFirst 39 = .ok (.iload 4, 2) := by decide +kernel
theorem dX2_removeFirst_41 : decode cX2_removeFirst 41 = .ok (.iadd, 1) := by decide +kernel
theorem dX2_removeFirst_42 : decode cX2_removeFirst 42 = .ok (.iconst 1, 1) := by decide +kernel
theorem dX2_removeFirst_43 : decode cX2_removeFirst 43 = .ok (.isub, 1) := by decide +kernel
theorem dX2_removeFirst_44 : decode cX2_removeFirst 44 = .ok (.aload_n 0, 1) := by decide +kernel
theorem dX2_removeFirst_45 : decode cX2_removeFirst 45 = .ok (.getfield 24, 3) := by decide +kernel
theorem dX2_removeFirst_48 : decode cX2_removeFirst 48 = .ok (.iload_n 3, 1) := by decide +kernel
theorem dX2_removeFirst_49 : decode cX2_removeFirst 49 = .ok (.iload 4, 2) := by decide +kernel
theorem dX2_removeFirst_51 : decode cX2_removeFirst 51 = .ok (.iadd, 1) := by decide +kernel
theorem dX2_removeFirst_52 : decode cX2_removeFirst 52 = .ok (.iaload, 1) := by decide +kernel
theorem dX2_removeFirst_53 : decode cX2_removeFirst 53 = .ok (.iastore, 1) := by decide +kernel
theorem dX2_removeFirst_54 : decode cX2_removeFirst 54 = .ok (.iinc 4 1, 3) := by decide +kernel
theorem dX2_removeFirst_57 : decode cX2_removeFirst 57 = .ok (.goto (-29), 3) := by decide +kernel
theorem dX2_removeFirst_60 : decode cX2_removeFirst 60 = .ok (.aload_n 0, 1) := by decide +kernel
theorem dX2_removeFirst_61 : decode cX2_removeFirst 61 = .ok (.getfield 21, 3) := by decide +kernel
theorem dX2_removeFirst_64 : decode cX2_removeFirst 64 = .ok (.iload_n 1, 1) := by decide +kernel
theorem dX2_removeFirst_65 : decode cX2_removeFirst 65 = .ok (.dup2, 1) := by decide +kernel
theorem dX2_removeFirst_66 : decode cX2_removeFirst 66 = .ok (.iaload, 1) := by decide +kernel
theorem dX2_removeFirst_67 : decode cX2_removeFirst 67 = .ok (.iconst 1, 1) := by decide +kernel
theorem dX2_removeFirst_68 : decode cX2_removeFirst 68 = .ok (.isub, 1) := by decide +kernel
theorem dX2_removeFirst_69 : decode cX2_removeFirst 69 = .ok (.iastore, 1) := by decide +kernel
theorem dX2_removeFirst_70 : decode cX2_removeFirst 70 = .ok (.iload_n 2, 1) := by decide +kernel
theorem dX2_removeFirst_71 : decode cX2_removeFirst 71 = .ok (.ireturn, 1) := by decide +kernel
set_option maxRecDepth 20000 in
theorem ggX2_begin_X2_has : GoodIn wsX2_begin wsX2_has := goodIn_r _ [8, 9, 10, 11, 12, 13, 14, 15] (by decide +kernel) (by decide +kernel)
set_option maxRecDepth 20000 in
theorem gX2_begin_X2_has : GoodIn wsX2_begin (wsV RX2 37 RX2 yX2_has wsX2_has) := goodIn_app (goodIn_of _ (by decide +kernel)) ggX2_begin_X2_has
theorem dX2_begin_0 : decode cX2_begin 0 = .ok (.aload_n 0, 1) := by decide +kernel
theorem dX2_begin_1 : decode cX2_begin 1 = .ok (.iload_n 1, 1) := by decide +kernel
theorem dX2_begin_2 : decode cX2_begin 2 = .ok (.invokevirtual 37, 3) := by decide +kernel
theorem dX2_begin_5 : decode cX2_begin 5 = .ok (.ifCond .eq 25, 3) := by decide +kernel
theorem dX2_begin_8 : decode cX2_begin 8 = .ok (.aload_n 0, 1) := by decide +kernel
theorem dX2_begin_9 : decode cX2_begin 9 = .ok (.getfield 15, 3) := by decide +kernel
theorem dX2_begin_12 : decode cX2_begin 12 = .ok (.iload_n 1, 1) := by decide +kernel
theorem dX2_begin_13 : decode cX2_begin 13 = .ok (.iload_n 2, 1) := by decide +kernel
theorem dX2_begin_14 : decode cX2_begin 14 = .ok (.iastore, 1) := by decide +kernel
theorem dX2_begin_15 : decode cX2_begin 15 = .ok (.aload_n 0, 1) := by decide +kernel
theorem dX2_begin_16 : decode cX2_begin 16 = .ok (.getfield 18, 3) := by decide +kernel
theorem dX2_begin_19 : decode cX2_begin 19 = .ok (.iload_n 1, 1) := by decide +kernel
theorem dX2_begin_20 : decode cX2_begin 20 = .ok (.iload_n 3, 1) := by decide +kernel
theorem dX2_begin_21 : decode cX2_begin 21 = .ok (.iastore, 1) := by decide +kernel
theorem dX2_begin_22 : decode cX2_begin 22 = .ok (.aload_n 0, 1) := by decide +kernel
theorem dX2_begin_23 : decode cX2_begin 23 = .ok (.getfield 9, 3) := by decide +kernel
theorem dX2_begin_26 : decode cX2_begin 26 = .ok (.iload_n 1, 1) := by decide +kernel
theorem dX2_begin_27 : decode cX2_begin 27 = .ok (.iload 4, 2) := by decide +kernel
theorem dX2_begin_29 : decode cX2_begin 29 = .ok (.iastore, 1) := by decide +kernel
theorem dX2_begin_30 : decode cX2_begin 30 = .ok (.return_, 1) := by decide +kernel
set_option maxRecDepth 20000 in
theorem ggX2_work_X2_has : GoodIn wsX2_work wsX2_has := goodIn_r _ [7, 8, 9, 10, 11, 12, 13, 14] (by decide +kernel) (by decide +kernel)
set_option maxRecDepth 20000 in
theorem gX2_work_X2_has : GoodIn wsX2_work (wsV RX2 37 RX2 yX2_has wsX2_has) := goodIn_app (goodIn_of _ (by decide +kernel)) ggX2_work_X2_has
theorem dX2_work_0 : decode cX2_work 0 = .ok (.aload_n 0, 1) := by decide +kernel
theorem dX2_work_1 : decode cX2_work 1 = .ok (.iload_n 1, 1) := by decide +kernel
theorem dX2_work_2 : decode cX2_work 2 = .ok (.invokevirtual 37, 3) := by decide +kernel
theorem dX2_work_5 : decode cX2_work 5 = .ok (.ifCond .eq 12, 3) := by decide +kernel
theorem dX2_work_8 : decode cX2_work 8 = .ok (.aload_n 0, 1) := by decide +kernel
theorem dX2_work_9 : decode cX2_work 9 = .ok (.getfield 18, 3) := by decide +kernel
theorem dX2_work_12 : decode cX2_work 12 = .ok (.iload_n 1, 1) := by decide +kernel
theorem dX2_work_13 : decode cX2_work 13 = .ok (.iaload, 1) := by decide +kernel
theorem dX2_work_14 : decode cX2_work 14 = .ok (.ifCond .gt 5, 3) := by decide +kernel
theorem dX2_work_17 : decode cX2_work 17 = .ok (.iconst (-1), 1) := by decide +kernel
theorem dX2_work_18 : decode cX2_work 18 = .ok (.ireturn, 1) := by decide +kernel
theorem dX2_work_19 : decode cX2_work 19 = .ok (.aload_n 0, 1) := by decide +kernel
theorem dX2_work_20 : decode cX2_work 20 = .ok (.getfield 18, 3) := by decide +kernel
theorem dX2_work_23 : decode cX2_work 23 = .ok (.iload_n 1, 1) := by decide +kernel
theorem dX2_work_24 : decode cX2_work 24 = .ok (.dup2, 1) := by decide +kernel
theorem dX2_work_25 : decode cX2_work 25 = .ok (.iaload, 1) := by decide +kernel
theorem dX2_work_26 : decode cX2_work 26 = .ok (.iconst 1, 1) := by decide +kernel
theorem dX2_work_27 : decode cX2_work 27 = .ok (.isub, 1) := by decide +kernel
theorem dX2_work_28 : decode cX2_work 28 = .ok (.iastore, 1) := by decide +kernel
theorem dX2_work_29 : decode cX2_work 29 = .ok (.aload_n 0, 1) := by decide +kernel
theorem dX2_work_30 : decode cX2_work 30 = .ok (.getfield 18, 3) := by decide +kernel
theorem dX2_work_33 : decode cX2_work 33 = .ok (.iload_n 1, 1) := by decide +kernel
theorem dX2_work_34 : decode cX2_work 34 = .ok (.iaload, 1) := by decide +kernel
theorem dX2_work_35 : decode cX2_work 35 = .ok (.ifCond .ne 12, 3) := by decide +kernel
theorem dX2_work_38 : decode cX2_work 38 = .ok (.aload_n 0, 1) := by decide +kernel
theorem dX2_work_39 : decode cX2_work 39 = .ok (.getfield 15, 3) := by decide +kernel
theorem dX2_work_42 : decode cX2_work 42 = .ok (.iload_n 1, 1) := by decide +kernel
theorem dX2_work_43 : decode cX2_work 43 = .ok (.iaload, 1) := by decide +kernel
theorem dX2_work_44 : decode cX2_work 44 = .ok (.goto 4, 3) := by decide +kernel
theorem dX2_work_47 : decode cX2_work 47 = .ok (.iconst (-1), 1) := by decide +kernel
theorem dX2_work_48 : decode cX2_work 48 = .ok (.ireturn, 1) := by decide +kernel
set_option maxRecDepth 20000 in
theorem ggX3_init_J4_init_da8c8 : GoodIn wsX3_init wsJ4_init_da8c8 := goodIn_r _ [12, 13, 14, 15, 16, 17, 2, 3, 18, 19, 20, 21, 22, 23, 24, 25, 26, 27, 28, 29, 30, 31, 32, 33] (by decide +kernel) (by decide +kernel)
set_option maxRecDepth 20000 in
theorem gX3_init_J4_init_da8c8 : GoodIn wsX3_init (wsJ4_init_da8c8) := ggX3_init_J4_init_da8c8
theorem dX3_init_0 : decode cX3_init 0 = .ok (.aload_n 0, 1) := by decide +kernel
theorem dX3_init_1 : decode cX3_init 1 = .ok (.invokespecial 3, 3) := by decide +kernel
theorem dX3_init_4 : decode cX3_init 4 = .ok (.aload_n 0, 1) := by decide +kernel
theorem dX3_init_5 : decode cX3_init 5 = .ok (.new 9, 3) := by decide +kernel
theorem dX3_init_8 : decode cX3_init 8 = .ok (.dup, 1) := by decide +kernel
theorem dX3_init_9 : decode cX3_init 9 = .ok (.invokespecial 11, 3) := by decide +kernel
theorem dX3_init_12 : decode cX3_init 12 = .ok (.putfield 12, 3) := by decide +kernel
theorem dX3_init_15 : decode cX3_init 15 = .ok (.aload_n 0, 1) := by decide +kernel
theorem dX3_init_16 : decode cX3_init 16 = .ok (.iconst 4, 1) := by decide +kernel
theorem dX3_init_17 : decode cX3_init 17 = .ok (.newarray .int, 2) := by decide +kernel
theorem dX3_init_19 : decode cX3_init 19 = .ok (.putfield 18, 3) := by decide +kernel
theorem dX3_init_22 : decode cX3_init 22 = .ok (.return_, 1) := by decide +kernel
theorem dX3_formOf_0 : decode cX3_formOf 0 = .ok (.iload_n 0, 1) := by decide +kernel
theorem dX3_formOf_1 : decode cX3_formOf 1 = .ok (.tableswitch 71 0 7 #[47, 50, 53, 56, 59, 62, 65, 68], 47) := by decide +kernel
theorem dX3_formOf_48 : decode cX3_formOf 48 = .ok (.ldc 22, 2) := by decide +kernel
theorem dX3_formOf_50 : decode cX3_formOf 50 = .ok (.areturn, 1) := by decide +kernel
theorem dX3_formOf_51 : decode cX3_formOf 51 = .ok (.ldc 24, 2) := by decide +kernel
theorem dX3_formOf_53 : decode cX3_formOf 53 = .ok (.areturn, 1) := by decide +kernel
theorem dX3_formOf_54 : decode cX3_formOf 54 = .ok (.ldc 26, 2) := by decide +kernel
theorem dX3_formOf_56 : decode cX3_formOf 56 = .ok (.areturn, 1) := by decide +kernel
theorem dX3_formOf_57 : decode cX3_formOf 57 = .ok (.ldc 28, 2) := by decide +kernel
theorem dX3_formOf_59 : decode cX3_formOf 59 = .ok (.areturn, 1) := by decide +kernel
theorem dX3_formOf_60 : decode cX3_formOf 60 = .ok (.ldc 30, 2) := by decide +kernel
theorem dX3_formOf_62 : decode cX3_formOf 62 = .ok (.areturn, 1) := by decide +kernel
theorem dX3_formOf_63 : decode cX3_formOf 63 = .ok (.ldc 32, 2) := by decide +kernel
theorem dX3_formOf_65 : decode cX3_formOf 65 = .ok (.areturn, 1) := by decide +kernel
theorem dX3_formOf_66 : decode cX3_formOf 66 = .ok (.ldc 34, 2) := by decide +kernel
theorem dX3_formOf_68 : decode cX3_formOf 68 = .ok (.areturn, 1) := by decide +kernel
theorem dX3_formOf_69 : decode cX3_formOf 69 = .ok (.ldc 36, 2) := by decide +kernel
theorem dX3_formOf_71 : decode cX3_formOf 71 = .ok (.areturn, 1) := by decide +kernel
theorem dX3_formOf_72 : decode cX3_formOf 72 = .ok (.ldc 38, 2) := by decide +kernel
theorem dX3_formOf_74 : decode cX3_formOf 74 = .ok (.areturn, 1) := by decide +kernel
set_option maxRecDepth 20000 in
theorem ggX3_countCommands_X3_readCommand : GoodIn wsX3_countCommands wsX3_readCommand := goodIn_ca (goodIn_r _ [7, 8, 9, 10, 11, 12, 1, 13, 14, 6, 15, 16, 17, 18, 19, 20, 21, 22, 23, 24, 25, 26, 27, 28, 29, 30, 31, 32, 33, 34, 35, 36, 37, 38, 39, 40, 41, 42, 43, 44, 45, 46, 47, 48, 49, 50, 51, 52, 53, 54, 55, 56, 57, 58, 59, 60, 61, 62, 63, 64, 65, 66, 67, 68, 69, 70, 71, 72, 2, 73, 74, 75, 76, 77, 78, 79, 80, 81, 82, 83, 84, 85, 86, 87, 88, 89, 90, 91, 92, 93, 94, 95, 96, 97, 98, 99, 100, 101, 102, 103, 104, 105, 106, 107, 108, 109, 110, 111, 112, 113, 114, 115, 116, 117, 118, 119, 120, 121, 122, 123, 124, 125, 126] (by decide +kernel) (by decide +kernel)) (goodIn_sub (fun _ h => List.mem_cons_of_mem _ (List.mem_append_right _ h)) (by decide +kernel))
set_option maxRecDepth 20000 in
theorem gX3_countCommands_X3_readCommand : GoodIn wsX3_countCommands (wsV RX3 44 RX3 yX3_readCommand wsX3_readCommand) := goodIn_app (goodIn_of _ (by decide +kernel)) ggX3_countCommands_X3_readCommand
set_option maxRecDepth 20000 in
theorem ggX3_countCommands_J4_length_8abf5 : GoodIn wsX3_countCommands wsJ4_length_8abf5 := goodIn_r _ [77, 78, 79, 80, 81, 82, 83, 84, 123, 124, 125, 126] (by decide +kernel) (by decide +kernel)
set_option maxRecDepth 20000 in
theorem gX3_countCommands_J4_length_8abf5 : GoodIn wsX3_countCommands (wsV RX3 48 RJ4 yJ4_length_8abf5 wsJ4_length_8abf5) := goodIn_app (goodIn_of _ (by decide +kernel)) ggX3_countCommands_J4_length_8abf5
set_option maxRecDepth 20000 in
theorem ggX3_countCommands_X3_signAt : GoodIn wsX3_countCommands wsX3_signAt := goodIn_r _ [72, 2, 73, 74, 75, 76, 77, 78, 79, 80, 81, 82, 83, 84, 85, 86, 87, 88, 89, 90, 91, 92, 93, 94, 95, 96, 11, 97, 98, 45, 23, 46, 47, 48, 49, 50, 51, 99, 64, 54, 65, 66, 67, 68, 59, 60, 61, 115, 116, 117, 118, 123, 124, 125, 126] (by decide +kernel) (by decide +kernel)
set_option maxRecDepth 20000 in
theorem gX3_countCommands_X3_signAt : GoodIn wsX3_countCommands (wsV RX3 52 RX3 yX3_signAt wsX3_signAt) := goodIn_app (goodIn_of _ (by decide +kernel)) ggX3_countCommands_X3_signAt
theorem dX3_countCommands_0 : decode cX3_countCommands 0 = .ok (.aload_n 0, 1) := by decide +kernel
theorem dX3_countCommands_1 : decode cX3_countCommands 1 = .ok (.iconst 0, 1) := by decide +kernel
theorem dX3_countCommands_2 : decode cX3_countCommands 2 = .ok (.putfield 40, 3) := by decide +kernel
theorem dX3_countCommands_5 : decode cX3_countCommands 5 = .ok (.iconst 1, 1) := by decide +kernel
theorem dX3_countCommands_6 : decode cX3_countCommands 6 = .ok (.istore_n 1, 1) := by decide +kernel
theorem dX3_countCommands_7 : decode cX3_countCommands 7 = .ok (.iload_n 1, 1) := by decide +kernel
theorem dX3_countCommands_8 : decode cX3_countCommands 8 = .ok (.bipush 60, 2) := by decide +kernel
theorem dX3_countCommands_10 : decode cX3_countCommands 10 = .ok (.if_icmp .gt 59, 3) := by decide +kernel
theorem dX3_countCommands_13 : decode cX3_countCommands 13 = .ok (.aload_n 0, 1) := by decide +kernel
theorem dX3_countCommands_14 : decode cX3_countCommands 14 = .ok (.invokevirtual 44, 3) := by decide +kernel
theorem dX3_countCommands_17 : decode cX3_countCommands 17 = .ok (.ifCond .ne 5, 3) := by decide +kernel
theorem dX3_countCommands_20 : decode cX3_countCommands 20 = .ok (.iconst (-1), 1) := by decide +kernel
theorem dX3_countCommands_21 : decode cX3_countCommands 21 = .ok (.ireturn, 1) := by decide +kernel
theorem dX3_countCommands_22 : decode cX3_countCommands 22 = .ok (.aload_n 0, 1) := by decide +kernel
theorem dX3_countCommands_23 : decode cX3_countCommands 23 = .ok (.getfield 40, 3) := by decide +kernel
theorem dX3_countCommands_26 : decode cX3_countCommands 26 = .ok (.aload_n 0, 1) := by decide +kernel
theorem dX3_countCommands_27 : decode cX3_countCommands 27 = .ok (.getfield 12, 3) := by decide +kernel
theorem dX3_countCommands_30 : decode cX3_countCommands 30 = .ok (.invokevirtual 48, 3) := by decide +kernel
theorem dX3_countCommands_33 : decode cX3_countCommands 33 = .ok (.if_icmp .lt 5, 3) := by decide +kernel
theorem dX3_countCommands_36 : decode cX3_countCommands 36 = .ok (.iload_n 1, 1) := by decide +kernel
theorem dX3_countCommands_37 : decode cX3_countCommands 37 = .ok (.ireturn, 1) := by decide +kernel
theorem dX3_countCommands_38 : decode cX3_countCommands 38 = .ok (.aload_n 0, 1) := by decide +kernel
theorem dX3_countCommands_39 : decode cX3_countCommands 39 = .ok (.aload_n 0, 1) := by decide +kernel
theorem dX3_countCommands_40 : decode cX3_countCommands 40 = .ok (.getfield 40, 3) := by decide +kernel
theorem dX3_countCommands_43 : decode cX3_countCommands 43 = .ok (.invokevirtual 52, 3) := by decide +kernel
theorem dX3_countCommands_46 : decode cX3_countCommands 46 = .ok (.bipush 59, 2) := by decide +kernel
theorem dX3_countCommands_48 : decode cX3_countCommands 48 = .ok (.if_icmp .eq 5, 3) := by decide +kernel
theorem dX3_countCommands_51 : decode cX3_countCommands 51 = .ok (.iconst (-1), 1) := by decide +kernel
theorem dX3_countCommands_52 : decode cX3_countCommands 52 = .ok (.ireturn, 1) := by decide +kernel
theorem dX3_countCommands_53 : decode cX3_countCommands 53 = .ok (.aload_n 0, 1) := by decide +kernel
theorem dX3_countCommands_54 : decode cX3_countCommands 54 = .ok (.dup, 1) := by decide +kernel
theorem dX3_countCommands_55 : decode cX3_countCommands 55 = .ok (.getfield 40, 3) := by decide +kernel
theorem dX3_countCommands_58 : decode cX3_countCommands 58 = .ok (.iconst 1, 1) := by decide +kernel
theorem dX3_countCommands_59 : decode cX3_countCommands 59 = .ok (.iadd, 1) := by decide +kernel
theorem dX3_countCommands_60 : decode cX3_countCommands 60 = .ok (.putfield 40, 3) := by decide +kernel
theorem dX3_countCommands_63 : decode cX3_countCommands 63 = .ok (.iinc 1 1, 3) := by decide +kernel
theorem dX3_countCommands_66 : decode cX3_countCommands 66 = .ok (.goto (-59), 3) := by decide +kernel
theorem dX3_countCommands_69 : decode cX3_countCommands 69 = .ok (.iconst (-1), 1) := by decide +kernel
theorem dX3_countCommands_70 : decode cX3_countCommands 70 = .ok (.ireturn, 1) := by decide +kernel
set_option maxRecDepth 20000 in
theorem ggX3_readNext_X3_readCommand : GoodIn wsX3_readNext wsX3_readCommand := goodIn_ca (goodIn_r _ [6, 7, 8, 9, 10, 11, 1, 12, 13, 5, 14, 15, 16, 17, 18, 19, 20, 21, 22, 23, 24, 25, 26, 27, 28, 29, 30, 31, 32, 33, 34, 35, 36, 37, 38, 39, 40, 41, 42, 43, 44, 45, 46, 47, 48, 49, 50, 51, 52, 53, 54, 55, 56, 57, 58, 59, 60, 61, 62, 63, 64, 65, 66, 67, 68, 69, 70, 71, 72, 73, 74, 75, 76, 77, 78, 79, 80, 81, 82, 83, 84, 85, 86, 87, 88, 89, 90, 91, 92, 93, 94, 95, 96, 97, 98, 99, 100, 101, 102, 103, 104, 105, 106, 107, 108, 109, 110, 111, 112, 113, 114, 115, 116, 117, 118, 119, 120, 121, 122, 123, 124, 125, 126] (by decide +kernel) (by decide +kernel)) (goodIn_sub (fun _ h => List.mem_cons_of_mem _ (List.mem_append_right _ h)) (by decide +kernel))
set_option maxRecDepth 20000 in
theorem gX3_readNext_X3_readCommand : GoodIn wsX3_readNext (wsV RX3 44 RX3 yX3_readCommand wsX3_readCommand) := goodIn_app (goodIn_of _ (by decide +kernel)) ggX3_readNext_X3_readCommand
theorem dX3_readNext_0 : decode cX3_readNext 0 = .ok (.aload_n 0, 1) := by decide +kernel
theorem dX3_readNext_1 : decode cX3_readNext 1 = .ok (.invokevirtual 44, 3) := by decide +kernel
theorem dX3_readNext_4 : decode cX3_readNext 4 = .ok (.pop, 1) := by decide +kernel
theorem dX3_readNext_5 : decode cX3_readNext 5 = .ok (.aload_n 0, 1) := by decide +kernel
theorem dX3_readNext_6 : decode cX3_readNext 6 = .ok (.dup, 1) := by decide +kernel
theorem dX3_readNext_7 : decode cX3_readNext 7 = .ok (.getfield 40, 3) := by decide +kernel
theorem dX3_readNext_10 : decode cX3_readNext 10 = .ok (.iconst 1, 1) := by decide +kernel
theorem dX3_readNext_11 : decode cX3_readNext 11 = .ok (.iadd, 1) := by decide +kernel
theorem dX3_readNext_12 : decode cX3_readNext 12 = .ok (.putfield 40, 3) := by decide +kernel
theorem dX3_readNext_15 : decode cX3_readNext 15 = .ok (.return_, 1) := by decide +kernel
set_option maxRecDepth 20000 in
theorem ggX3_readCommand_X3_formOf : GoodIn wsX3_readCommand wsX3_formOf := goodIn_r _ [10] (by decide +kernel) (by decide +kernel)
set_option maxRecDepth 20000 in
theorem gX3_readCommand_X3_formOf : GoodIn wsX3_readCommand (va_wsS RX3 56 yX3_formOf wsX3_formOf) := goodIn_app (goodIn_of _ (by decide +kernel)) ggX3_readCommand_X3_formOf
set_option maxRecDepth 20000 in
theorem ggX3_readCommand_X3_fittingSigns : GoodIn wsX3_readCommand wsX3_fittingSigns := goodIn_r _ [14, 6, 15, 16, 17, 18, 19, 20, 21, 22, 23, 24, 25, 26, 27, 28, 29, 30, 31, 32, 33, 34, 35, 36, 37, 38, 39, 40, 41, 42, 43, 44, 45, 46, 47, 48, 49, 50, 51, 52, 53, 54, 55, 56, 57, 58, 59, 60, 61, 62, 63, 64, 65, 66, 9, 67, 68, 69, 70, 71, 72, 73, 74, 75, 76, 77, 78, 79, 80, 81, 82, 83, 84, 85, 86, 87, 88, 89, 90, 91, 92, 4, 93, 94, 95, 96, 97, 98, 99, 100, 101, 111, 112, 113, 114, 115, 116, 117, 118, 119, 120, 121, 122] (by decide +kernel) (by decide +kernel)
set_option maxRecDepth 20000 in
theorem gX3_readCommand_X3_fittingSigns : GoodIn wsX3_readCommand (wsV RX3 60 RX3 yX3_fittingSigns wsX3_fittingSigns) := goodIn_app (goodIn_of _ (by decide +kernel)) ggX3_readCommand_X3_fittingSigns
set_option maxRecDepth 20000 in
theorem ggX3_readCommand_J0_length_8abf5 : GoodIn wsX3_readCommand wsJ0_length_8abf5 := goodIn_r _ [19, 20, 21, 22, 23, 18, 24, 25, 26, 115, 116, 117, 118] (by decide +kernel) (by decide +kernel)
set_option maxRecDepth 20000 in
theorem gX3_readCommand_J0_length_8abf5 : GoodIn wsX3_readCommand (wsV RX3 64 RJ0 yJ0_length_8abf5 wsJ0_length_8abf5) := goodIn_app (goodIn_of _ (by decide +kernel)) ggX3_readCommand_J0_length_8abf5
set_option maxRecDepth 20000 in
theorem ggX3_readCommand_X3_readValues : GoodIn wsX3_readCommand wsX3_readValues := goodIn_ca (goodIn_r _ [105, 106, 6, 15, 16, 17, 18, 19, 20, 21, 22, 23, 24, 25, 26, 27, 28, 29, 30, 31, 32, 33, 34, 35, 36, 37, 38, 39, 40, 41, 42, 43, 44, 45, 46, 47, 48, 49, 50, 51, 52, 53, 54, 55, 56, 57, 58, 59, 60, 61, 62, 63, 64, 65, 66, 9, 67, 68, 69, 70, 71, 72, 73, 74, 75, 76, 77, 78, 79, 80, 81, 82, 83, 84, 85, 86, 87, 88, 89, 90, 91, 92, 4, 93, 94, 95, 107, 108, 109, 110, 99, 100, 101, 111, 112, 113, 114, 115, 116, 117, 118, 119, 120, 121, 122] (by decide +kernel) (by decide +kernel)) (goodIn_sub (fun _ h => List.mem_cons_of_mem _ (List.mem_append_right _ h)) (by decide +kernel))
set_option maxRecDepth 20000 in
theorem gX3_readCommand_X3_readValues : GoodIn wsX3_readCommand (wsV RX3 70 RX3 yX3_readValues wsX3_readValues) := goodIn_app (goodIn_of _ (by decide +kernel)) ggX3_readCommand_X3_readValues
theorem dX3_readCommand_0 : decode cX3_readCommand 0 = .ok (.iconst 0, 1) := by decide +kernel
theorem dX3_readCommand_1 : decode cX3_readCommand 1 = .ok (.istore_n 1, 1) := by decide +kernel
theorem dX3_readCommand_2 : decode cX3_readCommand 2 = .ok (.iconst 0, 1) := by decide +kernel
theorem dX3_readCommand_3 : decode cX3_readCommand 3 = .ok (.istore_n 2, 1) := by decide +kernel
theorem dX3_readCommand_4 : decode cX3_readCommand 4 = .ok (.iload_n 2, 1) := by decide +kernel
theorem dX3_readCommand_5 : decode cX3_readCommand 5 = .ok (.bipush 8, 2) := by decide +kernel
theorem dX3_readCommand_7 : decode cX3_readCommand 7 = .ok (.if_icmp .gt 49, 3) := by decide +kernel
theorem dX3_readCommand_10 : decode cX3_readCommand 10 = .ok (.iload_n 2, 1) := by decide +kernel
theorem dX3_readCommand_11 : decode cX3_readCommand 11 = .ok (.invokestatic 56, 3) := by decide +kernel
theorem dX3_readCommand_14 : decode cX3_readCommand 14 = .ok (.astore_n 3, 1) := by decide +kernel
theorem dX3_readCommand_15 : decode cX3_readCommand 15 = .ok (.aload_n 0, 1) := by decide +kernel
theorem dX3_readCommand_16 : decode cX3_readCommand 16 = .ok (.aload_n 3, 1) := by decide +kernel
theorem dX3_readCommand_17 : decode cX3_readCommand 17 = .ok (.invokevirtual 60, 3) := by decide +kernel
theorem dX3_readCommand_20 : decode cX3_readCommand 20 = .ok (.istore 4, 2) := by decide +kernel
theorem dX3_readCommand_22 : decode cX3_readCommand 22 = .ok (.iload 4, 2) := by decide +kernel
theorem dX3_readCommand_24 : decode cX3_readCommand 24 = .ok (.aload_n 3, 1) := by decide +kernel
theorem dX3_readCommand_25 : decode cX3_readCommand 25 = .ok (.invokevirtual 64, 3) := by decide +kernel
theorem dX3_readCommand_28 : decode cX3_readCommand 28 = .ok (.if_icmp .ne 15, 3) := by decide +kernel
theorem dX3_readCommand_31 : decode cX3_readCommand 31 = .ok (.aload_n 0, 1) := by decide +kernel
theorem dX3_readCommand_32 : decode cX3_readCommand 32 = .ok (.iload_n 2, 1) := by decide +kernel
theorem dX3_readCommand_33 : decode cX3_readCommand 33 = .ok (.putfield 67, 3) := by decide +kernel
theorem dX3_readCommand_36 : decode cX3_readCommand 36 = .ok (.aload_n 0, 1) := by decide +kernel
theorem dX3_readCommand_37 : decode cX3_readCommand 37 = .ok (.aload_n 3, 1) := by decide +kernel
theorem dX3_readCommand_38 : decode cX3_readCommand 38 = .ok (.invokevirtual 70, 3) := by decide +kernel
theorem dX3_readCommand_41 : decode cX3_readCommand 41 = .ok (.iconst 1, 1) := by decide +kernel
theorem dX3_readCommand_42 : decode cX3_readCommand 42 = .ok (.ireturn, 1) := by decide +kernel
theorem dX3_readCommand_43 : decode cX3_readCommand 43 = .ok (.iload_n 1, 1) := by decide +kernel
theorem dX3_readCommand_44 : decode cX3_readCommand 44 = .ok (.iload 4, 2) := by decide +kernel
theorem dX3_readCommand_46 : decode cX3_readCommand 46 = .ok (.invokestatic 74, 3) := by decide +kernel
theorem dX3_readCommand_49 : decode cX3_readCommand 49 = .ok (.istore_n 1, 1) := by decide +kernel
theorem dX3_readCommand_50 : decode cX3_readCommand 50 = .ok (.iinc 2 1, 3) := by decide +kernel
theorem dX3_readCommand_53 : decode cX3_readCommand 53 = .ok (.goto (-49), 3) := by decide +kernel
theorem dX3_readCommand_56 : decode cX3_readCommand 56 = .ok (.aload_n 0, 1) := by decide +kernel
theorem dX3_readCommand_57 : decode cX3_readCommand 57 = .ok (.dup, 1) := by decide +kernel
theorem dX3_readCommand_58 : decode cX3_readCommand 58 = .ok (.getfield 40, 3) := by decide +kernel
theorem dX3_readCommand_61 : decode cX3_readCommand 61 = .ok (.iload_n 1, 1) := by decide +kernel
theorem dX3_readCommand_62 : decode cX3_readCommand 62 = .ok (.iadd, 1) := by decide +kernel
theorem dX3_readCommand_63 : decode cX3_readCommand 63 = .ok (.putfield 40, 3) := by decide +kernel
theorem dX3_readCommand_66 : decode cX3_readCommand 66 = .ok (.iconst 0, 1) := by decide +kernel
theorem dX3_readCommand_67 : decode cX3_readCommand 67 = .ok (.ireturn, 1) := by decide +kernel
set_option maxRecDepth 20000 in
theorem ggX3_fittingSigns_J0_length_8abf5 : GoodIn wsX3_fittingSigns wsJ0_length_8abf5 := goodIn_r _ [6, 7, 8, 9, 10, 5, 11, 12, 13, 95, 96, 97, 98] (by decide +kernel) (by decide +kernel)
set_option maxRecDepth 20000 in
theorem gX3_fittingSigns_J0_length_8abf5 : GoodIn wsX3_fittingSigns (wsV RX3 64 RJ0 yJ0_length_8abf5 wsJ0_length_8abf5) := goodIn_app (goodIn_of _ (by decide +kernel)) ggX3_fittingSigns_J0_length_8abf5
set_option maxRecDepth 20000 in
theorem ggX3_fittingSigns_J0_charAt_5068e : GoodIn wsX3_fittingSigns wsJ0_charAt_5068e := goodIn_r _ [17, 7, 18, 19, 20, 5, 21, 12, 13, 22, 23, 24, 25, 26, 27, 28, 29, 30, 31, 32, 33, 34, 35, 36, 37, 38, 39, 40, 41, 42, 43, 44, 45, 46, 47, 48, 49, 50, 95, 96, 97, 98] (by decide +kernel) (by decide +kernel)
set_option maxRecDepth 20000 in
theorem gX3_fittingSigns_J0_charAt_5068e : GoodIn wsX3_fittingSigns (wsV RX3 80 RJ0 yJ0_charAt_5068e wsJ0_charAt_5068e) := goodIn_app (goodIn_of _ (by decide +kernel)) ggX3_fittingSigns_J0_charAt_5068e
set_option maxRecDepth 20000 in
theorem ggX3_fittingSigns_X3_signAt : GoodIn wsX3_fittingSigns wsX3_signAt := goodIn_r _ [55, 56, 57, 58, 59, 60, 61, 62, 63, 64, 65, 66, 67, 68, 69, 70, 71, 72, 73, 74, 75, 76, 77, 78, 79, 80, 81, 82, 83, 27, 5, 28, 29, 30, 31, 32, 33, 84, 46, 36, 47, 48, 49, 50, 41, 42, 43, 91, 92, 93, 94, 99, 100, 101, 102] (by decide +kernel) (by decide +kernel)
set_option maxRecDepth 20000 in
theorem gX3_fittingSigns_X3_signAt : GoodIn wsX3_fittingSigns (wsV RX3 52 RX3 yX3_signAt wsX3_signAt) := goodIn_app (goodIn_of _ (by decide +kernel)) ggX3_fittingSigns_X3_signAt
set_option maxRecDepth 20000 in
theorem ggX3_fittingSigns_X3_fits : GoodIn wsX3_fittingSigns wsX3_fits := goodIn_r _ [87, 88, 89, 54, 90] (by decide +kernel) (by decide +kernel)
set_option maxRecDepth 20000 in
theorem gX3_fittingSigns_X3_fits : GoodIn wsX3_fittingSigns (va_wsS RX3 83 yX3_fits wsX3_fits) := goodIn_app (goodIn_of _ (by decide +kernel)) ggX3_fittingSigns_X3_fits
theorem dX3_fittingSigns_0 : decode cX3_fittingSigns 0 = .ok (.iconst 0, 1) := by decide +kernel
theorem dX3_fittingSigns_1 : decode cX3_fittingSigns 1 = .ok (.istore_n 2, 1) := by decide +kernel
theorem dX3_fittingSigns_2 : decode cX3_fittingSigns 2 = .ok (.iload_n 2, 1) := by decide +kernel
theorem dX3_fittingSigns_3 : decode cX3_fittingSigns 3 = .ok (.aload_n 1, 1) := by decide +kernel
theorem dX3_fittingSigns_4 : decode cX3_fittingSigns 4 = .ok (.invokevirtual 64, 3) := by decide +kernel
theorem dX3_fittingSigns_7 : decode cX3_fittingSigns 7 = .ok (.if_icmp .ge 32, 3) := by decide +kernel
theorem dX3_fittingSigns_10 : decode cX3_fittingSigns 10 = .ok (.aload_n 1, 1) := by decide +kernel
theorem dX3_fittingSigns_11 : decode cX3_fittingSigns 11 = .ok (.iload_n 2, 1) := by decide +kernel
theorem dX3_fittingSigns_12 : decode cX3_fittingSigns 12 = .ok (.invokevirtual 80, 3) := by decide +kernel
theorem dX3_fittingSigns_15 : decode cX3_fittingSigns 15 = .ok (.aload_n 0, 1) := by decide +kernel
theorem dX3_fittingSigns_16 : decode cX3_fittingSigns 16 = .ok (.aload_n 0, 1) := by decide +kernel
theorem dX3_fittingSigns_17 : decode cX3_fittingSigns 17 = .ok (.getfield 40, 3) := by decide +kernel
theorem dX3_fittingSigns_20 : decode cX3_fittingSigns 20 = .ok (.iload_n 2, 1) := by decide +kernel
theorem dX3_fittingSigns_21 : decode cX3_fittingSigns 21 = .ok (.iadd, 1) := by decide +kernel
theorem dX3_fittingSigns_22 : decode cX3_fittingSigns 22 = .ok (.invokevirtual 52, 3) := by decide +kernel
theorem dX3_fittingSigns_25 : decode cX3_fittingSigns 25 = .ok (.invokestatic 83, 3) := by decide +kernel
theorem dX3_fittingSigns_28 : decode cX3_fittingSigns 28 = .ok (.ifCond .ne 5, 3) := by decide +kernel
theorem dX3_fittingSigns_31 : decode cX3_fittingSigns 31 = .ok (.iload_n 2, 1) := by decide +kernel
theorem dX3_fittingSigns_32 : decode cX3_fittingSigns 32 = .ok (.ireturn, 1) := by decide +kernel
theorem dX3_fittingSigns_33 : decode cX3_fittingSigns 33 = .ok (.iinc 2 1, 3) := by decide +kernel
theorem dX3_fittingSigns_36 : decode cX3_fittingSigns 36 = .ok (.goto (-34), 3) := by decide +kernel
theorem dX3_fittingSigns_39 : decode cX3_fittingSigns 39 = .ok (.aload_n 1, 1) := by decide +kernel
theorem dX3_fittingSigns_40 : decode cX3_fittingSigns 40 = .ok (.invokevirtual 64, 3) := by decide +kernel
theorem dX3_fittingSigns_43 : decode cX3_fittingSigns 43 = .ok (.ireturn, 1) := by decide +kernel
set_option maxRecDepth 20000 in
theorem ggX3_fits_X3_isDigit : GoodIn wsX3_fits wsX3_isDigit := goodIn_r _ [4] (by decide +kernel) (by decide +kernel)
set_option maxRecDepth 20000 in
theorem gX3_fits_X3_isDigit : GoodIn wsX3_fits (va_wsS RX3 87 yX3_isDigit wsX3_isDigit) := goodIn_app (goodIn_of _ (by decide +kernel)) ggX3_fits_X3_isDigit
theorem dX3_fits_0 : decode cX3_fits 0 = .ok (.iload_n 0, 1) := by decide +kernel
theorem dX3_fits_1 : decode cX3_fits 1 = .ok (.bipush 35, 2) := by decide +kernel
theorem dX3_fits_3 : decode cX3_fits 3 = .ok (.if_icmp .eq 9, 3) := by decide +kernel
theorem dX3_fits_6 : decode cX3_fits 6 = .ok (.iload_n 0, 1) := by decide +kernel
theorem dX3_fits_7 : decode cX3_fits 7 = .ok (.bipush 37, 2) := by decide +kernel
theorem dX3_fits_9 : decode cX3_fits 9 = .ok (.if_icmp .ne 8, 3) := by decide +kernel
theorem dX3_fits_12 : decode cX3_fits 12 = .ok (.iload_n 1, 1) := by decide +kernel
theorem dX3_fits_13 : decode cX3_fits 13 = .ok (.invokestatic 87, 3) := by decide +kernel
theorem dX3_fits_16 : decode cX3_fits 16 = .ok (.ireturn, 1) := by decide +kernel
theorem dX3_fits_17 : decode cX3_fits 17 = .ok (.iload_n 0, 1) := by decide +kernel
theorem dX3_fits_18 : decode cX3_fits 18 = .ok (.bipush 64, 2) := by decide +kernel
theorem dX3_fits_20 : decode cX3_fits 20 = .ok (.if_icmp .ne 21, 3) := by decide +kernel
theorem dX3_fits_23 : decode cX3_fits 23 = .ok (.iload_n 1, 1) := by decide +kernel
theorem dX3_fits_24 : decode cX3_fits 24 = .ok (.bipush 97, 2) := by decide +kernel
theorem dX3_fits_26 : decode cX3_fits 26 = .ok (.if_icmp .lt 13, 3) := by decide +kernel
theorem dX3_fits_29 : decode cX3_fits 29 = .ok (.iload_n 1, 1) := by decide +kernel
theorem dX3_fits_30 : decode cX3_fits 30 = .ok (.bipush 99, 2) := by decide +kernel
theorem dX3_fits_32 : decode cX3_fits 32 = .ok (.if_icmp .gt 7, 3) := by decide +kernel
theorem dX3_fits_35 : decode cX3_fits 35 = .ok (.iconst 1, 1) := by decide +kernel
theorem dX3_fits_36 : decode cX3_fits 36 = .ok (.goto 4, 3) := by decide +kernel
theorem dX3_fits_39 : decode cX3_fits 39 = .ok (.iconst 0, 1) := by decide +kernel
theorem dX3_fits_40 : decode cX3_fits 40 = .ok (.ireturn, 1) := by decide +kernel
theorem dX3_fits_41 : decode cX3_fits 41 = .ok (.iload_n 1, 1) := by decide +kernel
theorem dX3_fits_42 : decode cX3_fits 42 = .ok (.iload_n 0, 1) := by decide +kernel
theorem dX3_fits_43 : decode cX3_fits 43 = .ok (.if_icmp .ne 7, 3) := by decide +kernel
theorem dX3_fits_46 : decode cX3_fits 46 = .ok (.iconst 1, 1) := by decide +kernel
theorem dX3_fits_47 : decode cX3_fits 47 = .ok (.goto 4, 3) := by decide +kernel
theorem dX3_fits_50 : decode cX3_fits 50 = .ok (.iconst 0, 1) := by decide +kernel
theorem dX3_fits_51 : decode cX3_fits 51 = .ok (.ireturn, 1) := by decide +kernel
theorem dX3_isDigit_0 : decode cX3_isDigit 0 = .ok (.iload_n 0, 1) := by decide +kernel
theorem dX3_isDigit_1 : decode cX3_isDigit 1 = .ok (.bipush 48, 2) := by decide +kernel
theorem dX3_isDigit_3 : decode cX3_isDigit 3 = .ok (.if_icmp .lt 13, 3) := by decide +kernel
theorem dX3_isDigit_6 : decode cX3_isDigit 6 = .ok (.iload_n 0, 1) := by decide +kernel
theorem dX3_isDigit_7 : decode cX3_isDigit 7 = .ok (.bipush 57, 2) := by decide +kernel
theorem dX3_isDigit_9 : decode cX3_isDigit 9 = .ok (.if_icmp .gt 7, 3) := by decide +kernel
theorem dX3_isDigit_12 : decode cX3_isDigit 12 = .ok (.iconst 1, 1) := by decide +kernel
theorem dX3_isDigit_13 : decode cX3_isDigit 13 = .ok (.goto 4, 3) := by decide +kernel
theorem dX3_isDigit_16 : decode cX3_isDigit 16 = .ok (.iconst 0, 1) := by decide +kernel
theorem dX3_isDigit_17 : decode cX3_isDigit 17 = .ok (.ireturn, 1) := by decide +kernel
set_option maxRecDepth 20000 in
theorem ggX3_signAt_J4_length_8abf5 : GoodIn wsX3_signAt wsJ4_length_8abf5 := goodIn_r _ [6, 7, 8, 9, 10, 11, 12, 13, 51, 52, 53, 54] (by decide +kernel) (by decide +kernel)
set_option maxRecDepth 20000 in
theorem gX3_signAt_J4_length_8abf5 : GoodIn wsX3_signAt (wsV RX3 48 RJ4 yJ4_length_8abf5 wsJ4_length_8abf5) := goodIn_app (goodIn_of _ (by decide +kernel)) ggX3_signAt_J4_length_8abf5
set_option maxRecDepth 20000 in
theorem ggX3_signAt_J4_charAt_5068e : GoodIn wsX3_signAt wsJ4_charAt_5068e := goodIn_r _ [17, 18, 19, 9, 20, 11, 21, 22, 23, 13, 24, 25, 26, 27, 28, 29, 30, 31, 32, 33, 34, 35, 36, 37, 38, 39, 40, 41, 42, 43, 44, 45, 46, 51, 52, 53, 54] (by decide +kernel) (by decide +kernel)
set_option maxRecDepth 20000 in
theorem gX3_signAt_J4_charAt_5068e : GoodIn wsX3_signAt (wsV RX3 91 RJ4 yJ4_charAt_5068e wsJ4_charAt_5068e) := goodIn_app (goodIn_of _ (by decide +kernel)) ggX3_signAt_J4_charAt_5068e
theorem dX3_signAt_0 : decode cX3_signAt 0 = .ok (.iload_n 1, 1) := by decide +kernel
theorem dX3_signAt_1 : decode cX3_signAt 1 = .ok (.ifCond .lt 25, 3) := by decide +kernel
theorem dX3_signAt_4 : decode cX3_signAt 4 = .ok (.iload_n 1, 1) := by decide +kernel
theorem dX3_signAt_5 : decode cX3_signAt 5 = .ok (.aload_n 0, 1) := by decide +kernel
theorem dX3_signAt_6 : decode cX3_signAt 6 = .ok (.getfield 12, 3) := by decide +kernel
theorem dX3_signAt_9 : decode cX3_signAt 9 = .ok (.invokevirtual 48, 3) := by decide +kernel
theorem dX3_signAt_12 : decode cX3_signAt 12 = .ok (.if_icmp .ge 14, 3) := by decide +kernel
theorem dX3_signAt_15 : decode cX3_signAt 15 = .ok (.aload_n 0, 1) := by decide +kernel
theorem dX3_signAt_16 : decode cX3_signAt 16 = .ok (.getfield 12, 3) := by decide +kernel
theorem dX3_signAt_19 : decode cX3_signAt 19 = .ok (.iload_n 1, 1) := by decide +kernel
theorem dX3_signAt_20 : decode cX3_signAt 20 = .ok (.invokevirtual 91, 3) := by decide +kernel
theorem dX3_signAt_23 : decode cX3_signAt 23 = .ok (.goto 4, 3) := by decide +kernel
theorem dX3_signAt_26 : decode cX3_signAt 26 = .ok (.iconst 0, 1) := by decide +kernel
theorem dX3_signAt_27 : decode cX3_signAt 27 = .ok (.ireturn, 1) := by decide +kernel
set_option maxRecDepth 20000 in
theorem ggX3_readValues_J0_length_8abf5 : GoodIn wsX3_readValues wsJ0_length_8abf5 := goodIn_r _ [7, 8, 9, 10, 11, 6, 12, 13, 14, 97, 98, 99, 100] (by decide +kernel) (by decide +kernel)
set_option maxRecDepth 20000 in
theorem gX3_readValues_J0_length_8abf5 : GoodIn wsX3_readValues (wsV RX3 64 RJ0 yJ0_length_8abf5 wsJ0_length_8abf5) := goodIn_app (goodIn_of _ (by decide +kernel)) ggX3_readValues_J0_length_8abf5
set_option maxRecDepth 20000 in
theorem ggX3_readValues_J0_charAt_5068e : GoodIn wsX3_readValues wsJ0_charAt_5068e := goodIn_r _ [18, 8, 19, 20, 21, 6, 22, 13, 14, 23, 24, 25, 26, 27, 28, 29, 30, 31, 32, 33, 34, 35, 36, 37, 38, 39, 40, 41, 42, 43, 44, 45, 46, 47, 48, 49, 50, 51, 97, 98, 99, 100] (by decide +kernel) (by decide +kernel)
set_option maxRecDepth 20000 in
theorem gX3_readValues_J0_charAt_5068e : GoodIn wsX3_readValues (wsV RX3 80 RJ0 yJ0_charAt_5068e wsJ0_charAt_5068e) := goodIn_app (goodIn_of _ (by decide +kernel)) ggX3_readValues_J0_charAt_5068e
set_option maxRecDepth 20000 in
theorem ggX3_readValues_X3_signAt : GoodIn wsX3_readValues wsX3_signAt := goodIn_r _ [56, 57, 58, 59, 60, 61, 62, 63, 64, 65, 66, 67, 68, 69, 70, 71, 72, 73, 74, 75, 76, 77, 78, 79, 80, 81, 82, 83, 84, 28, 6, 29, 30, 31, 32, 33, 34, 85, 47, 37, 48, 49, 50, 51, 42, 43, 44, 93, 94, 95, 96, 101, 102, 103, 104] (by decide +kernel) (by decide +kernel)
set_option maxRecDepth 20000 in
theorem gX3_readValues_X3_signAt : GoodIn wsX3_readValues (wsV RX3 52 RX3 yX3_signAt wsX3_signAt) := goodIn_app (goodIn_of _ (by decide +kernel)) ggX3_readValues_X3_signAt
set_option maxRecDepth 20000 in
theorem ggX3_readValues_X3_readNumber : GoodIn wsX3_readValues wsX3_readNumber := goodIn_r _ [89, 2, 52, 53, 54, 55, 56, 57, 58, 59, 60, 61, 62, 63, 64, 65, 66, 67, 68, 69, 70, 71, 72, 73, 74, 75, 76, 77, 78, 79, 80, 81, 82, 83, 84, 28, 6, 29, 30, 31, 32, 33, 34, 85, 47, 37, 48, 49, 50, 51, 42, 43, 44, 90, 91, 92, 93, 94, 95, 96, 101, 102, 103, 104] (by decide +kernel) (by decide +kernel)
set_option maxRecDepth 20000 in
theorem gX3_readValues_X3_readNumber : GoodIn wsX3_readValues (wsV RX3 92 RX3 yX3_readNumber wsX3_readNumber) := goodIn_app (goodIn_of _ (by decide +kernel)) ggX3_readValues_X3_readNumber
theorem dX3_readValues_0 : decode cX3_readValues 0 = .ok (.iconst 0, 1) := by decide +kernel
theorem dX3_readValues_1 : decode cX3_readValues 1 = .ok (.istore_n 2, 1) := by decide +kernel
theorem dX3_readValues_2 : decode cX3_readValues 2 = .ok (.iconst 0, 1) := by decide +kernel
theorem dX3_readValues_3 : decode cX3_readValues 3 = .ok (.istore_n 3, 1) := by decide +kernel
theorem dX3_readValues_4 : decode cX3_readValues 4 = .ok (.iload_n 3, 1) := by decide +kernel
theorem dX3_readValues_5 : decode cX3_readValues 5 = .ok (.aload_n 1, 1) := by decide +kernel
theorem dX3_readValues_6 : decode cX3_readValues 6 = .ok (.invokevirtual 64, 3) := by decide +kernel
theorem dX3_readValues_9 : decode cX3_readValues 9 = .ok (.if_icmp .ge 106, 3) := by decide +kernel
theorem dX3_readValues_12 : decode cX3_readValues 12 = .ok (.iload_n 2, 1) := by decide +kernel
theorem dX3_readValues_13 : decode cX3_readValues 13 = .ok (.iconst 4, 1) := by decide +kernel
theorem dX3_readValues_14 : decode cX3_readValues 14 = .ok (.if_icmp .ge 101, 3) := by decide +kernel
theorem dX3_readValues_17 : decode cX3_readValues 17 = .ok (.aload_n 1, 1) := by decide +kernel
theorem dX3_readValues_18 : decode cX3_readValues 18 = .ok (.iload_n 3, 1) := by decide +kernel
theorem dX3_readValues_19 : decode cX3_readValues 19 = .ok (.invokevirtual 80, 3) := by decide +kernel
theorem dX3_readValues_22 : decode cX3_readValues 22 = .ok (.istore 4, 2) := by decide +kernel
theorem dX3_readValues_24 : decode cX3_readValues 24 = .ok (.iload 4, 2) := by decide +kernel
theorem dX3_readValues_26 : decode cX3_readValues 26 = .ok (.bipush 64, 2) := by decide +kernel
theorem dX3_readValues_28 : decode cX3_readValues 28 = .ok (.if_icmp .ne 23, 3) := by decide +kernel
theorem dX3_readValues_31 : decode cX3_readValues 31 = .ok (.aload_n 0, 1) := by decide +kernel
theorem dX3_readValues_32 : decode cX3_readValues 32 = .ok (.getfield 18, 3) := by decide +kernel
theorem dX3_readValues_35 : decode cX3_readValues 35 = .ok (.iload_n 2, 1) := by decide +kernel
theorem dX3_readValues_36 : decode cX3_readValues 36 = .ok (.aload_n 0, 1) := by decide +kernel
theorem dX3_readValues_37 : decode cX3_readValues 37 = .ok (.aload_n 0, 1) := by decide +kernel
theorem dX3_readValues_38 : decode cX3_readValues 38 = .ok (.getfield 40, 3) := by decide +kernel
theorem dX3_readValues_41 : decode cX3_readValues 41 = .ok (.invokevirtual 52, 3) := by decide +kernel
theorem dX3_readValues_44 : decode cX3_readValues 44 = .ok (.iastore, 1) := by decide +kernel
theorem dX3_readValues_45 : decode cX3_readValues 45 = .ok (.iinc 2 1, 3) := by decide +kernel
theorem dX3_readValues_48 : decode cX3_readValues 48 = .ok (.goto 51, 3) := by decide +kernel
theorem dX3_readValues_51 : decode cX3_readValues 51 = .ok (.iload 4, 2) := by decide +kernel
theorem dX3_readValues_53 : decode cX3_readValues 53 = .ok (.bipush 35, 2) := by decide +kernel
theorem dX3_readValues_55 : decode cX3_readValues 55 = .ok (.if_icmp .ne 26, 3) := by decide +kernel
theorem dX3_readValues_58 : decode cX3_readValues 58 = .ok (.aload_n 0, 1) := by decide +kernel
theorem dX3_readValues_59 : decode cX3_readValues 59 = .ok (.getfield 18, 3) := by decide +kernel
theorem dX3_readValues_62 : decode cX3_readValues 62 = .ok (.iload_n 2, 1) := by decide +kernel
theorem dX3_readValues_63 : decode cX3_readValues 63 = .ok (.aload_n 0, 1) := by decide +kernel
theorem dX3_readValues_64 : decode cX3_readValues 64 = .ok (.aload_n 0, 1) := by decide +kernel
theorem dX3_readValues_65 : decode cX3_readValues 65 = .ok (.getfield 40, 3) := by decide +kernel
theorem dX3_readValues_68 : decode cX3_readValues 68 = .ok (.invokevirtual 52, 3) := by decide +kernel
theorem dX3_readValues_71 : decode cX3_readValues 71 = .ok (.bipush 48, 2) := by decide +kernel
theorem dX3_readValues_73 : decode cX3_readValues 73 = .ok (.isub, 1) := by decide +kernel
theorem dX3_readValues_74 : decode cX3_readValues 74 = .ok (.iastore, 1) := by decide +kernel
theorem dX3_readValues_75 : decode cX3_readValues 75 = .ok (.iinc 2 1, 3) := by decide +kernel
theorem dX3_readValues_78 : decode cX3_readValues 78 = .ok (.goto 21, 3) := by decide +kernel
theorem dX3_readValues_81 : decode cX3_readValues 81 = .ok (.iload 4, 2) := by decide +kernel
theorem dX3_readValues_83 : decode cX3_readValues 83 = .ok (.bipush 37, 2) := by decide +kernel
theorem dX3_readValues_85 : decode cX3_readValues 85 = .ok (.if_icmp .ne 14, 3) := by decide +kernel
theorem dX3_readValues_88 : decode cX3_readValues 88 = .ok (.aload_n 0, 1) := by decide +kernel
theorem dX3_readValues_89 : decode cX3_readValues 89 = .ok (.getfield 18, 3) := by decide +kernel
theorem dX3_readValues_92 : decode cX3_readValues 92 = .ok (.iload_n 2, 1) := by decide +kernel
theorem dX3_readValues_93 : decode cX3_readValues 93 = .ok (.aload_n 0, 1) := by decide +kernel
theorem dX3_readValues_94 : decode cX3_readValues 94 = .ok (.invokevirtual 92, 3) := by decide +kernel
theorem dX3_readValues_97 : decode cX3_readValues 97 = .ok (.iastore, 1) := by decide +kernel
theorem dX3_readValues_98 : decode cX3_readValues 98 = .ok (.return_, 1) := by decide +kernel
theorem dX3_readValues_99 : decode cX3_readValues 99 = .ok (.aload_n 0, 1) := by decide +kernel
theorem dX3_readValues_100 : decode cX3_readValues 100 = .ok (.dup, 1) := by decide +kernel
theorem dX3_readValues_101 : decode cX3_readValues 101 = .ok (.getfield 40, 3) := by decide +kernel
theorem dX3_readValues_104 : decode cX3_readValues 104 = .ok (.iconst 1, 1) := by decide +kernel
theorem dX3_readValues_105 : decode cX3_readValues 105 = .ok (.iadd, 1) := by decide +kernel
theorem dX3_readValues_106 : decode cX3_readValues 106 = .ok (.putfield 40, 3) := by decide +kernel
theorem dX3_readValues_109 : decode cX3_readValues 109 = .ok (.iinc 3 1, 3) := by decide +kernel
theorem dX3_readValues_112 : decode cX3_readValues 112 = .ok (.goto (-108), 3) := by decide +kernel
theorem dX3_readValues_115 : decode cX3_readValues 115 = .ok (.return_, 1) := by decide +kernel
set_option maxRecDepth 20000 in
theorem ggX3_readNumber_X3_signAt : GoodIn wsX3_readNumber wsX3_signAt := goodIn_r _ [6, 7, 8, 9, 10, 11, 12, 13, 14, 15, 16, 17, 18, 19, 20, 21, 22, 23, 24, 25, 26, 27, 28, 29, 30, 31, 32, 33, 34, 35, 36, 37, 38, 39, 40, 41, 42, 43, 44, 45, 46, 47, 48, 49, 50, 51, 52, 56, 57, 58, 59, 60, 61, 62, 63] (by decide +kernel) (by decide +kernel)
set_option maxRecDepth 20000 in
theorem gX3_readNumber_X3_signAt : GoodIn wsX3_readNumber (wsV RX3 52 RX3 yX3_signAt wsX3_signAt) := goodIn_app (goodIn_of _ (by decide +kernel)) ggX3_readNumber_X3_signAt
set_option maxRecDepth 20000 in
theorem ggX3_readNumber_X3_isDigit : GoodIn wsX3_readNumber wsX3_isDigit := goodIn_r _ [55] (by decide +kernel) (by decide +kernel)
set_option maxRecDepth 20000 in
theorem gX3_readNumber_X3_isDigit : GoodIn wsX3_readNumber (va_wsS RX3 87 yX3_isDigit wsX3_isDigit) := goodIn_app (goodIn_of _ (by decide +kernel)) ggX3_readNumber_X3_isDigit
theorem dX3_readNumber_0 : decode cX3_readNumber 0 = .ok (.iconst 0, 1) := by decide +kernel
theorem dX3_readNumber_1 : decode cX3_readNumber 1 = .ok (.istore_n 1, 1) := by decide +kernel
theorem dX3_readNumber_2 : decode cX3_readNumber 2 = .ok (.iconst 0, 1) := by decide +kernel
theorem dX3_readNumber_3 : decode cX3_readNumber 3 = .ok (.istore_n 2, 1) := by decide +kernel
theorem dX3_readNumber_4 : decode cX3_readNumber 4 = .ok (.iload_n 2, 1) := by decide +kernel
theorem dX3_readNumber_5 : decode cX3_readNumber 5 = .ok (.iconst 3, 1) := by decide +kernel
theorem dX3_readNumber_6 : decode cX3_readNumber 6 = .ok (.if_icmp .ge 50, 3) := by decide +kernel
theorem dX3_readNumber_9 : decode cX3_readNumber 9 = .ok (.aload_n 0, 1) := by decide +kernel
theorem dX3_readNumber_10 : decode cX3_readNumber 10 = .ok (.aload_n 0, 1) := by decide +kernel
theorem dX3_readNumber_11 : decode cX3_readNumber 11 = .ok (.getfield 40, 3) := by decide +kernel
theorem dX3_readNumber_14 : decode cX3_readNumber 14 = .ok (.invokevirtual 52, 3) := by decide +kernel
theorem dX3_readNumber_17 : decode cX3_readNumber 17 = .ok (.invokestatic 87, 3) := by decide +kernel
theorem dX3_readNumber_20 : decode cX3_readNumber 20 = .ok (.ifCond .eq 36, 3) := by decide +kernel
theorem dX3_readNumber_23 : decode cX3_readNumber 23 = .ok (.iload_n 1, 1) := by decide +kernel
theorem dX3_readNumber_24 : decode cX3_readNumber 24 = .ok (.bipush 10, 2) := by decide +kernel
theorem dX3_readNumber_26 : decode cX3_readNumber 26 = .ok (.imul, 1) := by decide +kernel
theorem dX3_readNumber_27 : decode cX3_readNumber 27 = .ok (.aload_n 0, 1) := by decide +kernel
theorem dX3_readNumber_28 : decode cX3_readNumber 28 = .ok (.aload_n 0, 1) := by decide +kernel
theorem dX3_readNumber_29 : decode cX3_readNumber 29 = .ok (.getfield 40, 3) := by decide +kernel
theorem dX3_readNumber_32 : decode cX3_readNumber 32 = .ok (.invokevirtual 52, 3) := by decide +kernel
theorem dX3_readNumber_35 : decode cX3_readNumber 35 = .ok (.iadd, 1) := by decide +kernel
theorem dX3_readNumber_36 : decode cX3_readNumber 36 = .ok (.bipush 48, 2) := by decide +kernel
theorem dX3_readNumber_38 : decode cX3_readNumber 38 = .ok (.isub, 1) := by decide +kernel
theorem dX3_readNumber_39 : decode cX3_readNumber 39 = .ok (.istore_n 1, 1) := by decide +kernel
theorem dX3_readNumber_40 : decode cX3_readNumber 40 = .ok (.aload_n 0, 1) := by decide +kernel
theorem dX3_readNumber_41 : decode cX3_readNumber 41 = .ok (.dup, 1) := by decide +kernel
theorem dX3_readNumber_42 : decode cX3_readNumber 42 = .ok (.getfield 40, 3) := by decide +kernel
theorem dX3_readNumber_45 : decode cX3_readNumber 45 = .ok (.iconst 1, 1) := by decide +kernel
theorem dX3_readNumber_46 : decode cX3_readNumber 46 = .ok (.iadd, 1) := by decide +kernel
theorem dX3_readNumber_47 : decode cX3_readNumber 47 = .ok (.putfield 40, 3) := by decide +kernel
theorem dX3_readNumber_50 : decode cX3_readNumber 50 = .ok (.iinc 2 1, 3) := by decide +kernel
theorem dX3_readNumber_53 : decode cX3_readNumber 53 = .ok (.goto (-49), 3) := by decide +kernel
theorem dX3_readNumber_56 : decode cX3_readNumber 56 = .ok (.iload_n 1, 1) := by decide +kernel
theorem dX3_readNumber_57 : decode cX3_readNumber 57 = .ok (.ireturn, 1) := by decide +kernel
theorem dX3_value_0 : decode cX3_value 0 = .ok (.iload_n 1, 1) := by decide +kernel
theorem dX3_value_1 : decode cX3_value 1 = .ok (.ifCond .lt 17, 3) := by decide +kernel
theorem dX3_value_4 : decode cX3_value 4 = .ok (.iload_n 1, 1) := by decide +kernel
theorem dX3_value_5 : decode cX3_value 5 = .ok (.iconst 4, 1) := by decide +kernel
theorem dX3_value_6 : decode cX3_value 6 = .ok (.if_icmp .ge 12, 3) := by decide +kernel
theorem dX3_value_9 : decode cX3_value 9 = .ok (.aload_n 0, 1) := by decide +kernel
theorem dX3_value_10 : decode cX3_value 10 = .ok (.getfield 18, 3) := by decide +kernel
theorem dX3_value_13 : decode cX3_value 13 = .ok (.iload_n 1, 1) := by decide +kernel
theorem dX3_value_14 : decode cX3_value 14 = .ok (.iaload, 1) := by decide +kernel
theorem dX3_value_15 : decode cX3_value 15 = .ok (.goto 4, 3) := by decide +kernel
theorem dX3_value_18 : decode cX3_value 18 = .ok (.iconst 0, 1) := by decide +kernel
theorem dX3_value_19 : decode cX3_value 19 = .ok (.ireturn, 1) := by decide +kernel
theorem dX4_init_0 : decode cX4_init 0 = .ok (.aload_n 0, 1) := by decide +kernel
theorem dX4_init_1 : decode cX4_init 1 = .ok (.invokespecial 3, 3) := by decide +kernel
theorem dX4_init_4 : decode cX4_init 4 = .ok (.aload_n 0, 1) := by decide +kernel
theorem dX4_init_5 : decode cX4_init 5 = .ok (.bipush 12, 2) := by decide +kernel
theorem dX4_init_7 : decode cX4_init 7 = .ok (.newarray .int, 2) := by decide +kernel
theorem dX4_init_9 : decode cX4_init 9 = .ok (.putfield 9, 3) := by decide +kernel
theorem dX4_init_12 : decode cX4_init 12 = .ok (.aload_n 0, 1) := by decide +kernel
theorem dX4_init_13 : decode cX4_init 13 = .ok (.bipush 12, 2) := by decide +kernel
theorem dX4_init_15 : decode cX4_init 15 = .ok (.newarray .int, 2) := by decide +kernel
theorem dX4_init_17 : decode cX4_init 17 = .ok (.putfield 15, 3) := by decide +kernel
theorem dX4_init_20 : decode cX4_init 20 = .ok (.aload_n 0, 1) := by decide +kernel
theorem dX4_init_21 : decode cX4_init 21 = .ok (.bipush 12, 2) := by decide +kernel
theorem dX4_init_23 : decode cX4_init 23 = .ok (.newarray .char, 2) := by decide +kernel
theorem dX4_init_25 : decode cX4_init 25 = .ok (.putfield 18, 3) := by decide +kernel
theorem dX4_init_28 : decode cX4_init 28 = .ok (.aload_n 0, 1) := by decide +kernel
theorem dX4_init_29 : decode cX4_init 29 = .ok (.bipush 12, 2) := by decide +kernel
theorem dX4_init_31 : decode cX4_init 31 = .ok (.newarray .int, 2) := by decide +kernel
theorem dX4_init_33 : decode cX4_init 33 = .ok (.putfield 22, 3) := by decide +kernel
theorem dX4_init_36 : decode cX4_init 36 = .ok (.aload_n 0, 1) := by decide +kernel
theorem dX4_init_37 : decode cX4_init 37 = .ok (.bipush 12, 2) := by decide +kernel
theorem dX4_init_39 : decode cX4_init 39 = .ok (.newarray .int, 2) := by decide +kernel
theorem dX4_init_41 : decode cX4_init 41 = .ok (.putfield 25, 3) := by decide +kernel
theorem dX4_init_44 : decode cX4_init 44 = .ok (.aload_n 0, 1) := by decide +kernel
theorem dX4_init_45 : decode cX4_init 45 = .ok (.bipush 12, 2) := by decide +kernel
theorem dX4_init_47 : decode cX4_init 47 = .ok (.newarray .int, 2) := by decide +kernel
theorem dX4_init_49 : decode cX4_init 49 = .ok (.putfield 28, 3) := by decide +kernel
theorem dX4_init_52 : decode cX4_init 52 = .ok (.aload_n 0, 1) := by decide +kernel
theorem dX4_init_53 : decode cX4_init 53 = .ok (.bipush 12, 2) := by decide +kernel
theorem dX4_init_55 : decode cX4_init 55 = .ok (.newarray .int, 2) := by decide +kernel
theorem dX4_init_57 : decode cX4_init 57 = .ok (.putfield 31, 3) := by decide +kernel
theorem dX4_init_60 : decode cX4_init 60 = .ok (.aload_n 0, 1) := by decide +kernel
theorem dX4_init_61 : decode cX4_init 61 = .ok (.bipush 12, 2) := by decide +kernel
theorem dX4_init_63 : decode cX4_init 63 = .ok (.newarray .int, 2) := by decide +kernel
theorem dX4_init_65 : decode cX4_init 65 = .ok (.putfield 34, 3) := by decide +kernel
theorem dX4_init_68 : decode cX4_init 68 = .ok (.return_, 1) := by decide +kernel
theorem dX4_has_0 : decode cX4_has 0 = .ok (.iload_n 1, 1) := by decide +kernel
theorem dX4_has_1 : decode cX4_has 1 = .ok (.ifCond .lt 21, 3) := by decide +kernel
theorem dX4_has_4 : decode cX4_has 4 = .ok (.iload_n 1, 1) := by decide +kernel
theorem dX4_has_5 : decode cX4_has 5 = .ok (.aload_n 0, 1) := by decide +kernel
theorem dX4_has_6 : decode cX4_has 6 = .ok (.getfield 37, 3) := by decide +kernel
theorem dX4_has_9 : decode cX4_has 9 = .ok (.if_icmp .ge 13, 3) := by decide +kernel
theorem dX4_has_12 : decode cX4_has 12 = .ok (.iload_n 1, 1) := by decide +kernel
theorem dX4_has_13 : decode cX4_has 13 = .ok (.bipush 12, 2) := by decide +kernel
theorem dX4_has_15 : decode cX4_has 15 = .ok (.if_icmp .ge 7, 3) := by decide +kernel
theorem dX4_has_18 : decode cX4_has 18 = .ok (.iconst 1, 1) := by decide +kernel
theorem dX4_has_19 : decode cX4_has 19 = .ok (.goto 4, 3) := by decide +kernel
theorem dX4_has_22 : decode cX4_has 22 = .ok (.iconst 0, 1) := by decide +kernel
theorem dX4_has_23 : decode cX4_has 23 = .ok (.ireturn, 1) := by decide +kernel
theorem dX4_copyFrom_0 : decode cX4_copyFrom 0 = .ok (.aload_n 1, 1) := by decide +kernel
theorem dX4_copyFrom_1 : decode cX4_copyFrom 1 = .ok (.getfield 9, 3) := by decide +kernel
