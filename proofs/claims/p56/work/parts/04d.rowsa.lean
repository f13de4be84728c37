theorem dX6_renderStreet_156 : decode cX6_renderStreet 156 = .ok (.getfield 48, 3) := by decide +kernel
theorem dX6_renderStreet_159 : decode cX6_renderStreet 159 = .ok (.invokevirtual 321, 3) := by decide +kernel
theorem dX6_renderStreet_162 : decode cX6_renderStreet 162 = .ok (.ireturn, 1) := by decide +kernel
set_option maxRecDepth 20000 in
theorem ggX6_renderQueue_X2_has : GoodIn wsX6_renderQueue wsX2_has := goodIn_r _ [11, 12, 230, 231, 232, 233, 234, 235] (by decide +kernel) (by decide +kernel)
set_option maxRecDepth 20000 in
theorem gX6_renderQueue_X2_has : GoodIn wsX6_renderQueue (wsV RX6 225 RX2 yX2_has wsX2_has) := goodIn_app (goodIn_of _ (by decide +kernel)) ggX6_renderQueue_X2_has
set_option maxRecDepth 20000 in
theorem ggX6_renderQueue_J4_setLength_d00df : GoodIn wsX6_renderQueue wsJ4_setLength_d00df := goodIn_r _ [17, 18, 19, 20, 21, 22, 23, 24, 25, 26, 27, 28, 29, 30, 31, 32, 33, 34, 35, 36, 37, 38, 39, 40, 41, 42, 43, 44, 45, 46, 47, 48, 49, 50, 51, 52, 53, 54, 55, 56, 57, 58, 59, 60, 61, 62, 63, 64, 65, 66, 67, 68, 69, 70, 71, 72, 73, 74, 75, 76, 77, 78, 79, 80, 81, 82, 83, 84, 85, 86, 87, 88, 89, 16, 90, 91, 92, 93, 94, 95, 96, 97, 236, 237, 238, 239, 240, 241, 242, 243, 244, 245, 246, 247, 248, 249, 250, 251] (by decide +kernel) (by decide +kernel)
set_option maxRecDepth 20000 in
theorem gX6_renderQueue_J4_setLength_d00df : GoodIn wsX6_renderQueue (wsV RX6 305 RJ4 yJ4_setLength_d00df wsJ4_setLength_d00df) := goodIn_app (goodIn_of _ (by decide +kernel)) ggX6_renderQueue_J4_setLength_d00df
set_option maxRecDepth 20000 in
theorem ggX6_renderQueue_J4_append_cf468 : GoodIn wsX6_renderQueue wsJ4_append_cf468 := goodIn_r _ [101, 102, 103, 20, 104, 22, 105, 27, 28, 30, 31, 32, 33, 34, 35, 36, 37, 38, 39, 40, 41, 42, 43, 44, 45, 46, 47, 48, 49, 50, 51, 52, 53, 54, 55, 56, 57, 58, 59, 60, 61, 62, 63, 64, 65, 66, 67, 68, 69, 70, 71, 72, 73, 74, 75, 76, 77, 106, 107, 80, 108, 109, 110, 111, 112, 113, 114, 115, 95, 116, 117, 118, 119, 120, 121, 122, 123, 124, 125, 126, 127, 128, 129, 130, 131, 132, 133, 134, 135, 136, 137, 138, 139, 140, 141, 142, 143, 144, 145, 146, 147, 148, 149, 150, 151, 152, 153, 154, 155, 156, 157, 158, 159, 242, 243, 244, 245] (by decide +kernel) (by decide +kernel)
set_option maxRecDepth 20000 in
theorem gX6_renderQueue_J4_append_cf468 : GoodIn wsX6_renderQueue (wsV RX6 313 RJ4 yJ4_append_cf468 wsJ4_append_cf468) := goodIn_app (goodIn_of _ (by decide +kernel)) ggX6_renderQueue_J4_append_cf468
set_option maxRecDepth 20000 in
theorem ggX6_renderQueue_X2_waitingAt : GoodIn wsX6_renderQueue wsX2_waitingAt := goodIn_ca (goodIn_r _ [163, 164, 165, 166, 8, 9, 10, 11, 12, 230, 231, 232, 233, 234, 235] (by decide +kernel) (by decide +kernel)) (goodIn_sub (fun _ h => List.mem_cons_of_mem _ (List.mem_append_right _ h)) (by decide +kernel))
set_option maxRecDepth 20000 in
theorem gX6_renderQueue_X2_waitingAt : GoodIn wsX6_renderQueue (wsV RX6 240 RX2 yX2_waitingAt wsX2_waitingAt) := goodIn_app (goodIn_of _ (by decide +kernel)) ggX6_renderQueue_X2_waitingAt
set_option maxRecDepth 20000 in
theorem ggX6_renderQueue_J4_append_bf812 : GoodIn wsX6_renderQueue wsJ4_append_bf812 := goodIn_r _ [170, 171, 172, 20, 173, 22, 174, 27, 28, 175, 176, 177, 178, 30, 31, 32, 33, 34, 35, 36, 37, 38, 39, 40, 41, 42, 43, 44, 45, 46, 47, 48, 49, 50, 51, 52, 53, 54, 55, 56, 57, 58, 59, 60, 61, 62, 63, 64, 65, 66, 67, 68, 69, 70, 71, 72, 73, 74, 75, 76, 77, 179, 180, 181, 182, 183, 184, 185, 95, 186, 145, 187, 188, 189, 130, 131, 132, 190, 191, 135, 192, 137, 193, 194, 140, 195, 196, 197, 198, 199, 200, 142, 143, 144, 146, 147, 242, 243, 244, 245] (by decide +kernel) (by decide +kernel)
set_option maxRecDepth 20000 in
theorem gX6_renderQueue_J4_append_bf812 : GoodIn wsX6_renderQueue (wsV RX6 309 RJ4 yJ4_append_bf812 wsJ4_append_bf812) := goodIn_app (goodIn_of _ (by decide +kernel)) ggX6_renderQueue_J4_append_bf812
set_option maxRecDepth 20000 in
theorem ggX6_renderQueue_J4_length_8abf5 : GoodIn wsX6_renderQueue wsJ4_length_8abf5 := goodIn_r _ [204, 205, 206, 20, 207, 22, 208, 27, 242, 243, 244, 245] (by decide +kernel) (by decide +kernel)
set_option maxRecDepth 20000 in
theorem gX6_renderQueue_J4_length_8abf5 : GoodIn wsX6_renderQueue (wsV RX6 321 RJ4 yJ4_length_8abf5 wsJ4_length_8abf5) := goodIn_app (goodIn_of _ (by decide +kernel)) ggX6_renderQueue_J4_length_8abf5
theorem dX6_renderQueue_0 : decode cX6_renderQueue 0 = .ok (.aload_n 0, 1) := by decide +kernel
theorem dX6_renderQueue_1 : decode cX6_renderQueue 1 = .ok (.getfield 21, 3) := by decide +kernel
theorem dX6_renderQueue_4 : decode cX6_renderQueue 4 = .ok (.getfield 218, 3) := by decide +kernel
theorem dX6_renderQueue_7 : decode cX6_renderQueue 7 = .ok (.astore_n 2, 1) := by decide +kernel
theorem dX6_renderQueue_8 : decode cX6_renderQueue 8 = .ok (.aload_n 2, 1) := by decide +kernel
theorem dX6_renderQueue_9 : decode cX6_renderQueue 9 = .ok (.iload_n 1, 1) := by decide +kernel
theorem dX6_renderQueue_10 : decode cX6_renderQueue 10 = .ok (.invokevirtual 225, 3) := by decide +kernel
theorem dX6_renderQueue_13 : decode cX6_renderQueue 13 = .ok (.ifCond .ne 13, 3) := by decide +kernel
theorem dX6_renderQueue_16 : decode cX6_renderQueue 16 = .ok (.new 71, 3) := by decide +kernel
theorem dX6_renderQueue_19 : decode cX6_renderQueue 19 = .ok (.dup, 1) := by decide +kernel
theorem dX6_renderQueue_20 : decode cX6_renderQueue 20 = .ok (.ldc 108, 2) := by decide +kernel
theorem dX6_renderQueue_22 : decode cX6_renderQueue 22 = .ok (.invokespecial 75, 3) := by decide +kernel
theorem dX6_renderQueue_25 : decode cX6_renderQueue 25 = .ok (.athrow, 1) := by decide +kernel
theorem dX6_renderQueue_26 : decode cX6_renderQueue 26 = .ok (.aload_n 0, 1) := by decide +kernel
theorem dX6_renderQueue_27 : decode cX6_renderQueue 27 = .ok (.getfield 48, 3) := by decide +kernel
theorem dX6_renderQueue_30 : decode cX6_renderQueue 30 = .ok (.iconst 0, 1) := by decide +kernel
theorem dX6_renderQueue_31 : decode cX6_renderQueue 31 = .ok (.invokevirtual 305, 3) := by decide +kernel
theorem dX6_renderQueue_34 : decode cX6_renderQueue 34 = .ok (.iconst 0, 1) := by decide +kernel
theorem dX6_renderQueue_35 : decode cX6_renderQueue 35 = .ok (.istore_n 3, 1) := by decide +kernel
theorem dX6_renderQueue_36 : decode cX6_renderQueue 36 = .ok (.iload_n 3, 1) := by decide +kernel
theorem dX6_renderQueue_37 : decode cX6_renderQueue 37 = .ok (.aload_n 2, 1) := by decide +kernel
theorem dX6_renderQueue_38 : decode cX6_renderQueue 38 = .ok (.getfield 237, 3) := by decide +kernel
theorem dX6_renderQueue_41 : decode cX6_renderQueue 41 = .ok (.iload_n 1, 1) := by decide +kernel
theorem dX6_renderQueue_42 : decode cX6_renderQueue 42 = .ok (.iaload, 1) := by decide +kernel
theorem dX6_renderQueue_43 : decode cX6_renderQueue 43 = .ok (.if_icmp .ge 37, 3) := by decide +kernel
theorem dX6_renderQueue_46 : decode cX6_renderQueue 46 = .ok (.iload_n 3, 1) := by decide +kernel
theorem dX6_renderQueue_47 : decode cX6_renderQueue 47 = .ok (.ifCond .le 13, 3) := by decide +kernel
theorem dX6_renderQueue_50 : decode cX6_renderQueue 50 = .ok (.aload_n 0, 1) := by decide +kernel
theorem dX6_renderQueue_51 : decode cX6_renderQueue 51 = .ok (.getfield 48, 3) := by decide +kernel
theorem dX6_renderQueue_54 : decode cX6_renderQueue 54 = .ok (.bipush 44, 2) := by decide +kernel
theorem dX6_renderQueue_56 : decode cX6_renderQueue 56 = .ok (.invokevirtual 313, 3) := by decide +kernel
theorem dX6_renderQueue_59 : decode cX6_renderQueue 59 = .ok (.pop, 1) := by decide +kernel
theorem dX6_renderQueue_60 : decode cX6_renderQueue 60 = .ok (.aload_n 0, 1) := by decide +kernel
theorem dX6_renderQueue_61 : decode cX6_renderQueue 61 = .ok (.getfield 48, 3) := by decide +kernel
theorem dX6_renderQueue_64 : decode cX6_renderQueue 64 = .ok (.aload_n 2, 1) := by decide +kernel
theorem dX6_renderQueue_65 : decode cX6_renderQueue 65 = .ok (.iload_n 1, 1) := by decide +kernel
theorem dX6_renderQueue_66 : decode cX6_renderQueue 66 = .ok (.iload_n 3, 1) := by decide +kernel
theorem dX6_renderQueue_67 : decode cX6_renderQueue 67 = .ok (.invokevirtual 240, 3) := by decide +kernel
theorem dX6_renderQueue_70 : decode cX6_renderQueue 70 = .ok (.invokevirtual 309, 3) := by decide +kernel
theorem dX6_renderQueue_73 : decode cX6_renderQueue 73 = .ok (.pop, 1) := by decide +kernel
theorem dX6_renderQueue_74 : decode cX6_renderQueue 74 = .ok (.iinc 3 1, 3) := by decide +kernel
theorem dX6_renderQueue_77 : decode cX6_renderQueue 77 = .ok (.goto (-41), 3) := by decide +kernel
theorem dX6_renderQueue_80 : decode cX6_renderQueue 80 = .ok (.aload_n 0, 1) := by decide +kernel
theorem dX6_renderQueue_81 : decode cX6_renderQueue 81 = .ok (.getfield 48, 3) := by decide +kernel
theorem dX6_renderQueue_84 : decode cX6_renderQueue 84 = .ok (.invokevirtual 321, 3) := by decide +kernel
theorem dX6_renderQueue_87 : decode cX6_renderQueue 87 = .ok (.ireturn, 1) := by decide +kernel
set_option maxRecDepth 20000 in
theorem ggX6_type_J4_length_8abf5 : GoodIn wsX6_type wsJ4_length_8abf5 := goodIn_r _ [11, 12, 13, 14, 15, 16, 17, 18, 146, 147, 148, 149] (by decide +kernel) (by decide +kernel)
set_option maxRecDepth 20000 in
theorem gX6_type_J4_length_8abf5 : GoodIn wsX6_type (wsV RX6 321 RJ4 yJ4_length_8abf5 wsJ4_length_8abf5) := goodIn_app (goodIn_of _ (by decide +kernel)) ggX6_type_J4_length_8abf5
set_option maxRecDepth 20000 in
theorem ggX6_type_J4_append_cf468 : GoodIn wsX6_type wsJ4_append_cf468 := goodIn_r _ [22, 23, 24, 14, 25, 16, 26, 18, 27, 28, 29, 30, 31, 32, 33, 34, 35, 36, 37, 38, 39, 40, 41, 42, 43, 44, 45, 46, 47, 48, 49, 50, 51, 52, 53, 54, 55, 56, 57, 58, 59, 60, 61, 62, 63, 64, 65, 66, 67, 68, 69, 70, 71, 72, 73, 74, 75, 76, 77, 78, 79, 80, 81, 82, 83, 84, 85, 86, 87, 88, 89, 90, 91, 92, 93, 94, 95, 96, 97, 98, 99, 100, 101, 102, 103, 104, 105, 106, 107, 108, 109, 110, 111, 112, 113, 114, 115, 116, 117, 118, 119, 120, 121, 122, 123, 124, 125, 126, 127, 128, 129, 130, 131, 146, 147, 148, 149] (by decide +kernel) (by decide +kernel)
set_option maxRecDepth 20000 in
theorem gX6_type_J4_append_cf468 : GoodIn wsX6_type (wsV RX6 313 RJ4 yJ4_append_cf468 wsJ4_append_cf468) := goodIn_app (goodIn_of _ (by decide +kernel)) ggX6_type_J4_append_cf468
theorem dX6_type_0 : decode cX6_type 0 = .ok (.iload_n 1, 1) := by decide +kernel
theorem dX6_type_1 : decode cX6_type 1 = .ok (.bipush 32, 2) := by decide +kernel
theorem dX6_type_3 : decode cX6_type 3 = .ok (.if_icmp .lt 9, 3) := by decide +kernel
theorem dX6_type_6 : decode cX6_type 6 = .ok (.iload_n 1, 1) := by decide +kernel
theorem dX6_type_7 : decode cX6_type 7 = .ok (.bipush 126, 2) := by decide +kernel
theorem dX6_type_9 : decode cX6_type 9 = .ok (.if_icmp .le 14, 3) := by decide +kernel
theorem dX6_type_12 : decode cX6_type 12 = .ok (.new 78, 3) := by decide +kernel
theorem dX6_type_15 : decode cX6_type 15 = .ok (.dup, 1) := by decide +kernel
theorem dX6_type_16 : decode cX6_type 16 = .ok (.ldc_w 330, 3) := by decide +kernel
theorem dX6_type_19 : decode cX6_type 19 = .ok (.invokespecial 82, 3) := by decide +kernel
theorem dX6_type_22 : decode cX6_type 22 = .ok (.athrow, 1) := by decide +kernel
theorem dX6_type_23 : decode cX6_type 23 = .ok (.aload_n 0, 1) := by decide +kernel
theorem dX6_type_24 : decode cX6_type 24 = .ok (.getfield 41, 3) := by decide +kernel
theorem dX6_type_27 : decode cX6_type 27 = .ok (.getfield 332, 3) := by decide +kernel
theorem dX6_type_30 : decode cX6_type 30 = .ok (.invokevirtual 321, 3) := by decide +kernel
theorem dX6_type_33 : decode cX6_type 33 = .ok (.bipush 60, 2) := by decide +kernel
theorem dX6_type_35 : decode cX6_type 35 = .ok (.if_icmp .lt 14, 3) := by decide +kernel
theorem dX6_type_38 : decode cX6_type 38 = .ok (.new 83, 3) := by decide +kernel
theorem dX6_type_41 : decode cX6_type 41 = .ok (.dup, 1) := by decide +kernel
theorem dX6_type_42 : decode cX6_type 42 = .ok (.ldc_w 335, 3) := by decide +kernel
theorem dX6_type_45 : decode cX6_type 45 = .ok (.invokespecial 87, 3) := by decide +kernel
theorem dX6_type_48 : decode cX6_type 48 = .ok (.athrow, 1) := by decide +kernel
theorem dX6_type_49 : decode cX6_type 49 = .ok (.aload_n 0, 1) := by decide +kernel
theorem dX6_type_50 : decode cX6_type 50 = .ok (.getfield 41, 3) := by decide +kernel
theorem dX6_type_53 : decode cX6_type 53 = .ok (.getfield 332, 3) := by decide +kernel
theorem dX6_type_56 : decode cX6_type 56 = .ok (.iload_n 1, 1) := by decide +kernel
theorem dX6_type_57 : decode cX6_type 57 = .ok (.invokevirtual 313, 3) := by decide +kernel
theorem dX6_type_60 : decode cX6_type 60 = .ok (.pop, 1) := by decide +kernel
theorem dX6_type_61 : decode cX6_type 61 = .ok (.aload_n 0, 1) := by decide +kernel
theorem dX6_type_62 : decode cX6_type 62 = .ok (.getfield 41, 3) := by decide +kernel
theorem dX6_type_65 : decode cX6_type 65 = .ok (.getfield 332, 3) := by decide +kernel
theorem dX6_type_68 : decode cX6_type 68 = .ok (.invokevirtual 321, 3) := by decide +kernel
theorem dX6_type_71 : decode cX6_type 71 = .ok (.ireturn, 1) := by decide +kernel
set_option maxRecDepth 20000 in
theorem ggX6_runScript_X3_countCommands : GoodIn wsX6_runScript wsX3_countCommands := goodIn_ca (goodIn_r _ [16, 17, 18, 19, 20, 21, 15, 22, 23, 24, 25, 26, 27, 28, 29, 30, 31, 32, 33, 34, 35, 36, 37, 38, 39, 40, 41, 42, 43, 44, 45, 46, 47, 48, 49, 50, 51, 52, 53, 54, 55, 56, 57, 58, 59, 60, 61, 62, 63, 64, 65, 66, 67, 68, 69, 70, 71, 72, 73, 74, 75, 76, 77, 78, 79, 80, 81, 82, 83, 84, 85, 86, 87, 88, 89, 90, 91, 92, 93, 94, 95, 96, 97, 98, 99, 100, 101, 102, 103, 104, 105, 106, 107, 108, 109, 110, 111, 112, 113, 114, 115, 116, 117, 118, 119, 120, 121, 122, 123, 124, 125, 126, 127, 128, 129, 454, 455, 456, 457, 458, 459, 460, 461, 462, 463, 464, 465] (by decide +kernel) (by decide +kernel)) (goodIn_sub (fun _ h => List.mem_cons_of_mem _ (List.mem_append_right _ h)) (by decide +kernel))
set_option maxRecDepth 20000 in
theorem gX6_runScript_X3_countCommands : GoodIn wsX6_runScript (wsV RX6 337 RX3 yX3_countCommands wsX3_countCommands) := goodIn_app (goodIn_of _ (by decide +kernel)) ggX6_runScript_X3_countCommands
set_option maxRecDepth 20000 in
theorem ggX6_runScript_J4_setLength_d00df : GoodIn wsX6_runScript wsJ4_setLength_d00df := goodIn_r _ [133, 134, 135, 95, 136, 97, 137, 138, 139, 140, 99, 109, 141, 142, 143, 144, 145, 146, 108, 147, 148, 149, 150, 151, 152, 153, 154, 155, 156, 157, 25, 26, 27, 158, 159, 160, 161, 162, 163, 164, 165, 166, 167, 168, 169, 170, 171, 172, 173, 111, 112, 174, 175, 176, 177, 178, 179, 180, 181, 182, 183, 184, 185, 57, 186, 187, 188, 189, 190, 191, 192, 193, 194, 91, 195, 196, 197, 198, 199, 69, 200, 201, 466, 467, 468, 469, 470, 471, 462, 463, 464, 465, 472, 473, 474, 475, 476, 477] (by decide +kernel) (by decide +kernel)
set_option maxRecDepth 20000 in
theorem gX6_runScript_J4_setLength_d00df : GoodIn wsX6_runScript (wsV RX6 305 RJ4 yJ4_setLength_d00df wsJ4_setLength_d00df) := goodIn_app (goodIn_of _ (by decide +kernel)) ggX6_runScript_J4_setLength_d00df
set_option maxRecDepth 20000 in
theorem ggX6_runScript_X0_write : GoodIn wsX6_runScript wsX0_write := goodIn_r _ [206, 207, 208, 209, 205, 210, 211, 212, 213, 214, 215, 216, 217, 218, 219, 220, 221, 222, 223, 224, 225, 226, 227, 228, 229, 230, 231, 232, 233, 234, 175, 176, 177, 235, 236, 237, 238, 239, 240, 241, 242, 243, 244, 245, 246, 247, 248, 249, 250, 251, 252, 253, 254, 478, 479, 480, 481, 482, 483, 484, 485, 486, 487, 488, 489, 490, 491, 492, 493, 494, 495, 496, 497, 498, 499, 500, 501, 502, 503, 504, 505, 506] (by decide +kernel) (by decide +kernel)
set_option maxRecDepth 20000 in
theorem gX6_runScript_X0_write : GoodIn wsX6_runScript (wsV RX6 63 RX0 yX0_write wsX0_write) := goodIn_app (goodIn_of _ (by decide +kernel)) ggX6_runScript_X0_write
set_option maxRecDepth 20000 in
theorem ggX6_runScript_X6_obeyNext : GoodIn wsX6_runScript wsX6_obeyNext := goodIn_ca (goodIn_r _ [259, 5, 260, 10, 261, 262, 263, 15, 264, 17, 19, 20, 21, 22, 23, 24, 25, 26, 27, 28, 29, 30, 31, 32, 33, 34, 35, 36, 37, 38, 39, 40, 41, 42, 43, 44, 45, 46, 47, 48, 49, 50, 51, 52, 53, 54, 55, 56, 57, 58, 59, 60, 61, 62, 63, 64, 65, 66, 67, 68, 69, 70, 71, 72, 73, 74, 75, 76, 77, 78, 79, 80, 81, 82, 83, 84, 85, 86, 87, 18, 88, 89, 90, 91, 92, 93, 94, 95, 96, 97, 98, 99, 100, 101, 102, 103, 104, 105, 106, 107, 108, 109, 110, 111, 112, 113, 114, 115, 116, 117, 118, 119, 120, 121, 122, 123, 124, 125, 126, 127, 128, 129, 265, 266, 267, 268, 269, 270, 271, 216, 272, 273, 274, 218, 275, 258, 276, 277, 278, 279, 231, 280, 242, 233, 235, 281, 282, 283, 284, 236, 237, 238, 239, 240, 241, 285, 286, 287, 288, 219, 289, 290, 291, 246, 292, 254, 248, 250, 251, 252, 293, 294, 295, 296, 297, 298, 299, 300, 301, 302, 303, 304, 253, 305, 306, 307, 308, 309, 310, 311, 312, 313, 314, 315, 316, 317, 318, 319, 320, 321, 322, 323, 324, 220, 221, 325, 326, 327, 328, 329, 330, 331, 332, 333, 334, 335, 336, 337, 338, 339, 222, 340, 341, 342, 343, 223, 344, 345, 346, 347, 224, 348, 349, 350, 351, 352, 353, 354, 355, 356, 357, 226, 358, 359, 360, 361, 362, 363, 364, 365, 366, 367, 368, 369, 370, 371, 372, 373, 374, 375, 376, 377, 378, 379, 380, 381, 382, 383, 384, 385, 386, 387, 388, 389, 390, 391, 392, 393, 394, 395, 396, 397, 398, 399, 400, 401, 402, 403, 404, 405, 225, 406, 407, 408, 409, 410, 411, 227, 412, 413, 414, 415, 416, 417, 418, 419, 420, 421, 422, 423, 424, 425, 426, 427, 428, 429, 430, 431, 432, 433, 444, 445, 446, 447, 448, 449, 450, 451, 452, 453, 454, 455, 456, 457, 458, 459, 460, 461, 462, 463, 464, 465, 481, 482, 483, 484, 485, 486, 487, 488, 489, 490, 491, 492, 493, 494, 495, 496, 497, 498, 499, 500, 501, 502, 503, 504, 505, 506, 507, 508, 509] (by decide +kernel) (by decide +kernel)) (goodIn_sub (fun _ h => List.mem_cons_of_mem _ (List.mem_append_right _ h)) (by decide +kernel))
set_option maxRecDepth 20000 in
theorem gX6_runScript_X6_obeyNext : GoodIn wsX6_runScript (wsV RX6 345 RX6 yX6_obeyNext wsX6_obeyNext) := goodIn_app (goodIn_of _ (by decide +kernel)) ggX6_runScript_X6_obeyNext
set_option maxRecDepth 20000 in
theorem ggX6_runScript_X0_read : GoodIn wsX6_runScript wsX0_read := goodIn_r _ [437, 207, 208, 209, 205, 210, 211, 212, 213, 214, 215, 216, 217, 218, 219, 220, 221, 222, 223, 224, 225, 226, 227, 228, 229, 230, 231, 232, 233, 234, 175, 176, 177, 235, 236, 237, 238, 239, 240, 241, 242, 243, 244, 245, 246, 247, 248, 249, 250, 251, 252, 253, 254, 478, 479, 480, 481, 482, 483, 484, 485, 486, 487, 488, 489, 490, 491, 492, 493, 494, 495, 496, 497, 498, 499, 500, 501, 502, 503, 504, 505, 506] (by decide +kernel) (by decide +kernel)
set_option maxRecDepth 20000 in
theorem gX6_runScript_X0_read : GoodIn wsX6_runScript (wsV RX6 348 RX0 yX0_read wsX0_read) := goodIn_app (goodIn_of _ (by decide +kernel)) ggX6_runScript_X0_read
set_option maxRecDepth 20000 in
theorem ggX6_runScript_X0_push : GoodIn wsX6_runScript wsX0_push := goodIn_r _ [441, 211, 442, 443, 111, 26, 112, 478, 479, 480] (by decide +kernel) (by decide +kernel)
set_option maxRecDepth 20000 in
theorem gX6_runScript_X0_push : GoodIn wsX6_runScript (wsV RX6 88 RX0 yX0_push wsX0_push) := goodIn_app (goodIn_of _ (by decide +kernel)) ggX6_runScript_X0_push
theorem dX6_runScript_0 : decode cX6_runScript 0 = .ok (.aload_n 0, 1) := by decide +kernel
theorem dX6_runScript_1 : decode cX6_runScript 1 = .ok (.getfield 41, 3) := by decide +kernel
theorem dX6_runScript_4 : decode cX6_runScript 4 = .ok (.invokevirtual 337, 3) := by decide +kernel
theorem dX6_runScript_7 : decode cX6_runScript 7 = .ok (.istore_n 1, 1) := by decide +kernel
theorem dX6_runScript_8 : decode cX6_runScript 8 = .ok (.iload_n 1, 1) := by decide +kernel
theorem dX6_runScript_9 : decode cX6_runScript 9 = .ok (.ifCond .ge 36, 3) := by decide +kernel
theorem dX6_runScript_12 : decode cX6_runScript 12 = .ok (.aload_n 0, 1) := by decide +kernel
theorem dX6_runScript_13 : decode cX6_runScript 13 = .ok (.aload_n 0, 1) := by decide +kernel
theorem dX6_runScript_14 : decode cX6_runScript 14 = .ok (.getfield 41, 3) := by decide +kernel
theorem dX6_runScript_17 : decode cX6_runScript 17 = .ok (.getfield 340, 3) := by decide +kernel
theorem dX6_runScript_20 : decode cX6_runScript 20 = .ok (.putfield 56, 3) := by decide +kernel
theorem dX6_runScript_23 : decode cX6_runScript 23 = .ok (.aload_n 0, 1) := by decide +kernel
theorem dX6_runScript_24 : decode cX6_runScript 24 = .ok (.getfield 41, 3) := by decide +kernel
theorem dX6_runScript_27 : decode cX6_runScript 27 = .ok (.getfield 332, 3) := by decide +kernel
theorem dX6_runScript_30 : decode cX6_runScript 30 = .ok (.iconst 0, 1) := by decide +kernel
theorem dX6_runScript_31 : decode cX6_runScript 31 = .ok (.invokevirtual 305, 3) := by decide +kernel
theorem dX6_runScript_34 : decode cX6_runScript 34 = .ok (.new 78, 3) := by decide +kernel
theorem dX6_runScript_37 : decode cX6_runScript 37 = .ok (.dup, 1) := by decide +kernel
theorem dX6_runScript_38 : decode cX6_runScript 38 = .ok (.ldc_w 343, 3) := by decide +kernel
theorem dX6_runScript_41 : decode cX6_runScript 41 = .ok (.invokespecial 82, 3) := by decide +kernel
theorem dX6_runScript_44 : decode cX6_runScript 44 = .ok (.athrow, 1) := by decide +kernel
theorem dX6_runScript_45 : decode cX6_runScript 45 = .ok (.aload_n 0, 1) := by decide +kernel
theorem dX6_runScript_46 : decode cX6_runScript 46 = .ok (.getfield 34, 3) := by decide +kernel
theorem dX6_runScript_49 : decode cX6_runScript 49 = .ok (.aload_n 0, 1) := by decide +kernel
theorem dX6_runScript_50 : decode cX6_runScript 50 = .ok (.getfield 21, 3) := by decide +kernel
theorem dX6_runScript_53 : decode cX6_runScript 53 = .ok (.invokevirtual 63, 3) := by decide +kernel
theorem dX6_runScript_56 : decode cX6_runScript 56 = .ok (.aload_n 0, 1) := by decide +kernel
theorem dX6_runScript_57 : decode cX6_runScript 57 = .ok (.getfield 41, 3) := by decide +kernel
theorem dX6_runScript_60 : decode cX6_runScript 60 = .ok (.iconst 0, 1) := by decide +kernel
theorem dX6_runScript_61 : decode cX6_runScript 61 = .ok (.putfield 340, 3) := by decide +kernel
theorem dX6_runScript_64 : decode cX6_runScript 64 = .ok (.iconst 0, 1) := by decide +kernel
theorem dX6_runScript_65 : decode cX6_runScript 65 = .ok (.istore_n 2, 1) := by decide +kernel
theorem dX6_runScript_66 : decode cX6_runScript 66 = .ok (.iload_n 2, 1) := by decide +kernel
theorem dX6_runScript_67 : decode cX6_runScript 67 = .ok (.iload_n 1, 1) := by decide +kernel
theorem dX6_runScript_68 : decode cX6_runScript 68 = .ok (.if_icmp .ge 54, 3) := by decide +kernel
theorem dX6_runScript_71 : decode cX6_runScript 71 = .ok (.aload_n 0, 1) := by decide +kernel
theorem dX6_runScript_72 : decode cX6_runScript 72 = .ok (.invokevirtual 345, 3) := by decide +kernel
theorem dX6_runScript_75 : decode cX6_runScript 75 = .ok (.ifCond .ge 41, 3) := by decide +kernel
theorem dX6_runScript_78 : decode cX6_runScript 78 = .ok (.aload_n 0, 1) := by decide +kernel
theorem dX6_runScript_79 : decode cX6_runScript 79 = .ok (.iload_n 2, 1) := by decide +kernel
theorem dX6_runScript_80 : decode cX6_runScript 80 = .ok (.putfield 60, 3) := by decide +kernel
theorem dX6_runScript_83 : decode cX6_runScript 83 = .ok (.aload_n 0, 1) := by decide +kernel
theorem dX6_runScript_84 : decode cX6_runScript 84 = .ok (.getfield 34, 3) := by decide +kernel
theorem dX6_runScript_87 : decode cX6_runScript 87 = .ok (.aload_n 0, 1) := by decide +kernel
theorem dX6_runScript_88 : decode cX6_runScript 88 = .ok (.getfield 21, 3) := by decide +kernel
theorem dX6_runScript_91 : decode cX6_runScript 91 = .ok (.invokevirtual 348, 3) := by decide +kernel
theorem dX6_runScript_94 : decode cX6_runScript 94 = .ok (.aload_n 0, 1) := by decide +kernel
theorem dX6_runScript_95 : decode cX6_runScript 95 = .ok (.getfield 41, 3) := by decide +kernel
theorem dX6_runScript_98 : decode cX6_runScript 98 = .ok (.getfield 332, 3) := by decide +kernel
theorem dX6_runScript_101 : decode cX6_runScript 101 = .ok (.iconst 0, 1) := by decide +kernel
theorem dX6_runScript_102 : decode cX6_runScript 102 = .ok (.invokevirtual 305, 3) := by decide +kernel
theorem dX6_runScript_105 : decode cX6_runScript 105 = .ok (.new 83, 3) := by decide +kernel
theorem dX6_runScript_108 : decode cX6_runScript 108 = .ok (.dup, 1) := by decide +kernel
theorem dX6_runScript_109 : decode cX6_runScript 109 = .ok (.ldc_w 351, 3) := by decide +kernel
theorem dX6_runScript_112 : decode cX6_runScript 112 = .ok (.invokespecial 87, 3) := by decide +kernel
theorem dX6_runScript_115 : decode cX6_runScript 115 = .ok (.athrow, 1) := by decide +kernel
theorem dX6_runScript_116 : decode cX6_runScript 116 = .ok (.iinc 2 1, 3) := by decide +kernel
theorem dX6_runScript_119 : decode cX6_runScript 119 = .ok (.goto (-53), 3) := by decide +kernel
theorem dX6_runScript_122 : decode cX6_runScript 122 = .ok (.aload_n 0, 1) := by decide +kernel
theorem dX6_runScript_123 : decode cX6_runScript 123 = .ok (.getfield 34, 3) := by decide +kernel
theorem dX6_runScript_126 : decode cX6_runScript 126 = .ok (.invokevirtual 88, 3) := by decide +kernel
theorem dX6_runScript_129 : decode cX6_runScript 129 = .ok (.aload_n 0, 1) := by decide +kernel
theorem dX6_runScript_130 : decode cX6_runScript 130 = .ok (.getfield 41, 3) := by decide +kernel
theorem dX6_runScript_133 : decode cX6_runScript 133 = .ok (.getfield 332, 3) := by decide +kernel
theorem dX6_runScript_136 : decode cX6_runScript 136 = .ok (.iconst 0, 1) := by decide +kernel
theorem dX6_runScript_137 : decode cX6_runScript 137 = .ok (.invokevirtual 305, 3) := by decide +kernel
theorem dX6_runScript_140 : decode cX6_runScript 140 = .ok (.iload_n 1, 1) := by decide +kernel
theorem dX6_runScript_141 : decode cX6_runScript 141 = .ok (.ireturn, 1) := by decide +kernel
set_option maxRecDepth 20000 in
theorem ggX6_obeyNext_X3_readNext : GoodIn wsX6_obeyNext wsX3_readNext := goodIn_ca (goodIn_r _ [8, 9, 10, 11, 12, 7, 13, 14, 15, 16, 17, 18, 19, 20, 21, 22, 23, 24, 25, 26, 27, 28, 29, 30, 31, 32, 33, 34, 35, 36, 37, 38, 39, 40, 41, 42, 43, 44, 45, 46, 47, 48, 49, 50, 51, 52, 53, 54, 55, 56, 57, 58, 59, 60, 61, 62, 63, 64, 65, 66, 67, 68, 69, 70, 71, 72, 73, 74, 75, 76, 77, 78, 79, 80, 81, 82, 83, 84, 85, 86, 87, 88, 89, 90, 91, 92, 93, 94, 95, 96, 97, 98, 99, 100, 101, 102, 103, 104, 105, 106, 107, 108, 109, 110, 111, 112, 113, 114, 115, 116, 117, 118, 119, 120, 121, 330, 331, 332, 333, 334, 335, 336, 337, 338, 339, 340, 341] (by decide +kernel) (by decide +kernel)) (goodIn_sub (fun _ h => List.mem_cons_of_mem _ (List.mem_append_right _ h)) (by decide +kernel))
set_option maxRecDepth 20000 in
theorem gX6_obeyNext_X3_readNext : GoodIn wsX6_obeyNext (wsV RX6 353 RX3 yX3_readNext wsX3_readNext) := goodIn_app (goodIn_of _ (by decide +kernel)) ggX6_obeyNext_X3_readNext
set_option maxRecDepth 20000 in
theorem ggX6_obeyNext_X3_value : GoodIn wsX6_obeyNext wsX3_value := goodIn_ca (goodIn_r _ [125, 117, 330, 331, 332, 333] (by decide +kernel) (by decide +kernel)) (goodIn_sub (fun _ h => List.mem_cons_of_mem _ (List.mem_append_right _ h)) (by decide +kernel))
set_option maxRecDepth 20000 in
theorem gX6_obeyNext_X3_value : GoodIn wsX6_obeyNext (wsV RX6 359 RX3 yX3_value wsX3_value) := goodIn_app (goodIn_of _ (by decide +kernel)) ggX6_obeyNext_X3_value
set_option maxRecDepth 20000 in
theorem ggX6_obeyNext_X5_putStreet : GoodIn wsX6_obeyNext wsX5_putStreet := goodIn_ca (goodIn_r _ [130, 131, 103, 17, 104, 132, 16, 18, 133, 134, 135, 136, 137, 138, 139, 140, 141, 142, 143, 144, 145, 146, 147, 148, 149, 150, 151, 152, 153, 154, 342, 343, 344, 345, 346, 347, 348, 349, 350, 351, 352, 353, 354, 355, 356, 357, 358, 359, 360, 361] (by decide +kernel) (by decide +kernel)) (goodIn_sub (fun _ h => List.mem_cons_of_mem _ (List.mem_append_right _ h)) (by decide +kernel))
set_option maxRecDepth 20000 in
theorem gX6_obeyNext_X5_putStreet : GoodIn wsX6_obeyNext (wsV RX6 67 RX5 yX5_putStreet wsX5_putStreet) := goodIn_app (goodIn_of _ (by decide +kernel)) ggX6_obeyNext_X5_putStreet
set_option maxRecDepth 20000 in
theorem ggX6_obeyNext_X5_putPlough : GoodIn wsX6_obeyNext wsX5_putPlough := goodIn_ca (goodIn_r _ [158, 159, 134, 135, 136, 160, 161, 162, 163, 164, 165, 166, 167, 168, 169, 342, 343, 344, 345, 346, 347, 348, 349, 350, 351, 352, 362, 363, 364, 365, 366, 367] (by decide +kernel) (by decide +kernel)) (goodIn_sub (fun _ h => List.mem_cons_of_mem _ (List.mem_append_right _ h)) (by decide +kernel))
set_option maxRecDepth 20000 in
theorem gX6_obeyNext_X5_putPlough : GoodIn wsX6_obeyNext (wsV RX6 91 RX5 yX5_putPlough wsX5_putPlough) := goodIn_app (goodIn_of _ (by decide +kernel)) ggX6_obeyNext_X5_putPlough
set_option maxRecDepth 20000 in
theorem ggX6_obeyNext_X5_appendOrder : GoodIn wsX6_obeyNext wsX5_appendOrder := goodIn_ca (goodIn_r _ [173, 133, 159, 174, 175, 176, 140, 177, 142, 178, 179, 180, 163, 181, 169, 182, 183, 184, 185, 186, 165, 342, 343, 344, 345, 346, 347, 348, 349, 350, 351, 352, 353, 354, 355, 356, 357, 358, 359, 360, 361, 362, 363, 364, 365, 366, 367] (by decide +kernel) (by decide +kernel)) (goodIn_sub (fun _ h => List.mem_cons_of_mem _ (List.mem_append_right _ h)) (by decide +kernel))
set_option maxRecDepth 20000 in
theorem gX6_obeyNext_X5_appendOrder : GoodIn wsX6_obeyNext (wsV RX6 97 RX5 yX5_appendOrder wsX5_appendOrder) := goodIn_app (goodIn_of _ (by decide +kernel)) ggX6_obeyNext_X5_appendOrder
set_option maxRecDepth 20000 in
theorem ggX6_obeyNext_X5_removeOrder : GoodIn wsX6_obeyNext wsX5_removeOrder := goodIn_ca (goodIn_r _ [190, 159, 191, 192, 193, 163, 194, 169, 183, 184, 185, 186, 165, 195, 196, 197, 198, 182, 342, 343, 344, 345, 346, 347, 348, 349, 350, 351, 352, 362, 363, 364, 365, 366, 367] (by decide +kernel) (by decide +kernel)) (goodIn_sub (fun _ h => List.mem_cons_of_mem _ (List.mem_append_right _ h)) (by decide +kernel))
set_option maxRecDepth 20000 in
theorem gX6_obeyNext_X5_removeOrder : GoodIn wsX6_obeyNext (wsV RX6 105 RX5 yX5_removeOrder wsX5_removeOrder) := goodIn_app (goodIn_of _ (by decide +kernel)) ggX6_obeyNext_X5_removeOrder
set_option maxRecDepth 20000 in
theorem ggX6_obeyNext_X5_spreadSalt : GoodIn wsX6_obeyNext wsX5_spreadSalt := goodIn_ca (goodIn_r _ [202, 133, 203, 204, 205, 206, 174, 175, 176, 140, 177, 142, 207, 208, 209, 210, 152, 211, 342, 343, 344, 345, 346, 347, 348, 349, 350, 351, 352, 353, 354, 355, 356, 357, 358, 359, 360, 361] (by decide +kernel) (by decide +kernel)) (goodIn_sub (fun _ h => List.mem_cons_of_mem _ (List.mem_append_right _ h)) (by decide +kernel))
set_option maxRecDepth 20000 in
theorem gX6_obeyNext_X5_spreadSalt : GoodIn wsX6_obeyNext (wsV RX6 115 RX5 yX5_spreadSalt wsX5_spreadSalt) := goodIn_app (goodIn_of _ (by decide +kernel)) ggX6_obeyNext_X5_spreadSalt
set_option maxRecDepth 20000 in
theorem ggX6_obeyNext_X5_fillStore : GoodIn wsX6_obeyNext wsX5_fillStore := goodIn_r _ [215, 204, 342, 343, 344, 345, 346, 347, 348, 349, 350, 351, 352] (by decide +kernel) (by decide +kernel)
set_option maxRecDepth 20000 in
theorem gX6_obeyNext_X5_fillStore : GoodIn wsX6_obeyNext (wsV RX6 127 RX5 yX5_fillStore wsX5_fillStore) := goodIn_app (goodIn_of _ (by decide +kernel)) ggX6_obeyNext_X5_fillStore
set_option maxRecDepth 20000 in
theorem ggX6_obeyNext_X5_changeRate : GoodIn wsX6_obeyNext wsX5_changeRate := goodIn_r _ [219, 220, 342, 343, 344, 345, 346, 347, 348, 349, 350, 351, 352] (by decide +kernel) (by decide +kernel)
set_option maxRecDepth 20000 in
theorem gX6_obeyNext_X5_changeRate : GoodIn wsX6_obeyNext (wsV RX6 134 RX5 yX5_changeRate wsX5_changeRate) := goodIn_app (goodIn_of _ (by decide +kernel)) ggX6_obeyNext_X5_changeRate
set_option maxRecDepth 20000 in
theorem ggX6_obeyNext_X5_changeForce : GoodIn wsX6_obeyNext wsX5_changeForce := goodIn_r _ [224, 225, 342, 343, 344, 345, 346, 347, 348, 349, 350, 351, 352] (by decide +kernel) (by decide +kernel)
set_option maxRecDepth 20000 in
theorem gX6_obeyNext_X5_changeForce : GoodIn wsX6_obeyNext (wsV RX6 139 RX5 yX5_changeForce wsX5_changeForce) := goodIn_app (goodIn_of _ (by decide +kernel)) ggX6_obeyNext_X5_changeForce
set_option maxRecDepth 20000 in
theorem ggX6_obeyNext_X5_passMinutes : GoodIn wsX6_obeyNext wsX5_passMinutes := goodIn_ca (goodIn_r _ [229, 230, 203, 159, 231, 232, 233, 234, 163, 235, 168, 169, 183, 184, 185, 186, 165, 236, 237, 238, 129, 239, 240, 133, 241, 242, 243, 244, 245, 246, 247, 248, 182, 195, 196, 197, 198, 249, 250, 251, 252, 253, 131, 103, 17, 104, 205, 254, 174, 175, 176, 140, 177, 142, 255, 256, 257, 258, 259, 260, 261, 262, 263, 264, 265, 266, 267, 268, 269, 134, 135, 136, 270, 271, 272, 273, 143, 144, 274, 275, 276, 277, 278, 279, 280, 281, 167, 166, 282, 283, 284, 285, 286, 287, 288, 289, 290, 291, 292, 293, 294, 295, 296, 220, 225, 297, 298, 299, 300, 301, 151, 302, 303, 304, 305, 306, 152, 307, 16, 18, 308, 309, 310, 311, 211, 312, 313, 314, 315, 153, 316, 317, 318, 319, 149, 342, 343, 344, 345, 346, 347, 348, 349, 350, 351, 352, 362, 363, 364, 365, 366, 367, 353, 354, 355, 356, 357, 358, 359, 360, 361, 368, 369, 370] (by decide +kernel) (by decide +kernel)) (goodIn_sub (fun _ h => List.mem_cons_of_mem _ (List.mem_append_right _ h)) (by decide +kernel))
set_option maxRecDepth 20000 in
theorem gX6_obeyNext_X5_passMinutes : GoodIn wsX6_obeyNext (wsV RX6 144 RX5 yX5_passMinutes wsX5_passMinutes) := goodIn_app (goodIn_of _ (by decide +kernel)) ggX6_obeyNext_X5_passMinutes
theorem dX6_obeyNext_0 : decode cX6_obeyNext 0 = .ok (.aload_n 0, 1) := by decide +kernel
theorem dX6_obeyNext_1 : decode cX6_obeyNext 1 = .ok (.getfield 41, 3) := by decide +kernel
theorem dX6_obeyNext_4 : decode cX6_obeyNext 4 = .ok (.invokevirtual 353, 3) := by decide +kernel
theorem dX6_obeyNext_7 : decode cX6_obeyNext 7 = .ok (.aload_n 0, 1) := by decide +kernel
theorem dX6_obeyNext_8 : decode cX6_obeyNext 8 = .ok (.getfield 41, 3) := by decide +kernel
theorem dX6_obeyNext_11 : decode cX6_obeyNext 11 = .ok (.getfield 356, 3) := by decide +kernel
theorem dX6_obeyNext_14 : decode cX6_obeyNext 14 = .ok (.tableswitch 207 0 7 #[46, 87, 103, 127, 143, 159, 175, 191], 46) := by decide +kernel
theorem dX6_obeyNext_60 : decode cX6_obeyNext 60 = .ok (.aload_n 0, 1) := by decide +kernel
theorem dX6_obeyNext_61 : decode cX6_obeyNext 61 = .ok (.getfield 21, 3) := by decide +kernel
theorem dX6_obeyNext_64 : decode cX6_obeyNext 64 = .ok (.aload_n 0, 1) := by decide +kernel
theorem dX6_obeyNext_65 : decode cX6_obeyNext 65 = .ok (.getfield 41, 3) := by decide +kernel
theorem dX6_obeyNext_68 : decode cX6_obeyNext 68 = .ok (.iconst 0, 1) := by decide +kernel
theorem dX6_obeyNext_69 : decode cX6_obeyNext 69 = .ok (.invokevirtual 359, 3) := by decide +kernel
theorem dX6_obeyNext_72 : decode cX6_obeyNext 72 = .ok (.aload_n 0, 1) := by decide +kernel
theorem dX6_obeyNext_73 : decode cX6_obeyNext 73 = .ok (.getfield 41, 3) := by decide +kernel
theorem dX6_obeyNext_76 : decode cX6_obeyNext 76 = .ok (.iconst 1, 1) := by decide +kernel
theorem dX6_obeyNext_77 : decode cX6_obeyNext 77 = .ok (.invokevirtual 359, 3) := by decide +kernel
theorem dX6_obeyNext_80 : decode cX6_obeyNext 80 = .ok (.aload_n 0, 1) := by decide +kernel
theorem dX6_obeyNext_81 : decode cX6_obeyNext 81 = .ok (.getfield 41, 3) := by decide +kernel
theorem dX6_obeyNext_84 : decode cX6_obeyNext 84 = .ok (.iconst 2, 1) := by decide +kernel
theorem dX6_obeyNext_85 : decode cX6_obeyNext 85 = .ok (.invokevirtual 359, 3) := by decide +kernel
theorem dX6_obeyNext_88 : decode cX6_obeyNext 88 = .ok (.i2c, 1) := by decide +kernel
theorem dX6_obeyNext_89 : decode cX6_obeyNext 89 = .ok (.aload_n 0, 1) := by decide +kernel
theorem dX6_obeyNext_90 : decode cX6_obeyNext 90 = .ok (.getfield 41, 3) := by decide +kernel
theorem dX6_obeyNext_93 : decode cX6_obeyNext 93 = .ok (.iconst 3, 1) := by decide +kernel
theorem dX6_obeyNext_94 : decode cX6_obeyNext 94 = .ok (.invokevirtual 359, 3) := by decide +kernel
theorem dX6_obeyNext_97 : decode cX6_obeyNext 97 = .ok (.invokevirtual 67, 3) := by decide +kernel
theorem dX6_obeyNext_100 : decode cX6_obeyNext 100 = .ok (.ireturn, 1) := by decide +kernel
theorem dX6_obeyNext_101 : decode cX6_obeyNext 101 = .ok (.aload_n 0, 1) := by decide +kernel
theorem dX6_obeyNext_102 : decode cX6_obeyNext 102 = .ok (.getfield 21, 3) := by decide +kernel
theorem dX6_obeyNext_105 : decode cX6_obeyNext 105 = .ok (.aload_n 0, 1) := by decide +kernel
theorem dX6_obeyNext_106 : decode cX6_obeyNext 106 = .ok (.getfield 41, 3) := by decide +kernel
theorem dX6_obeyNext_109 : decode cX6_obeyNext 109 = .ok (.iconst 0, 1) := by decide +kernel
theorem dX6_obeyNext_110 : decode cX6_obeyNext 110 = .ok (.invokevirtual 359, 3) := by decide +kernel
theorem dX6_obeyNext_113 : decode cX6_obeyNext 113 = .ok (.invokevirtual 91, 3) := by decide +kernel
theorem dX6_obeyNext_116 : decode cX6_obeyNext 116 = .ok (.ireturn, 1) := by decide +kernel
theorem dX6_obeyNext_117 : decode cX6_obeyNext 117 = .ok (.aload_n 0, 1) := by decide +kernel
theorem dX6_obeyNext_118 : decode cX6_obeyNext 118 = .ok (.getfield 21, 3) := by decide +kernel
theorem dX6_obeyNext_121 : decode cX6_obeyNext 121 = .ok (.aload_n 0, 1) := by decide +kernel
theorem dX6_obeyNext_122 : decode cX6_obeyNext 122 = .ok (.getfield 41, 3) := by decide +kernel
theorem dX6_obeyNext_125 : decode cX6_obeyNext 125 = .ok (.iconst 0, 1) := by decide +kernel
theorem dX6_obeyNext_126 : decode cX6_obeyNext 126 = .ok (.invokevirtual 359, 3) := by decide +kernel
theorem dX6_obeyNext_129 : decode cX6_obeyNext 129 = .ok (.aload_n 0, 1) := by decide +kernel
theorem dX6_obeyNext_130 : decode cX6_obeyNext 130 = .ok (.getfield 41, 3) := by decide +kernel
theorem dX6_obeyNext_133 : decode cX6_obeyNext 133 = .ok (.iconst 1, 1) := by decide +kernel
theorem dX6_obeyNext_134 : decode cX6_obeyNext 134 = .ok (.invokevirtual 359, 3) := by decide +kernel
theorem dX6_obeyNext_137 : decode cX6_obeyNext 137 = .ok (.invokevirtual 97, 3) := by decide +kernel
theorem dX6_obeyNext_140 : decode cX6_obeyNext 140 = .ok (.ireturn, 1) := by decide +kernel
theorem dX6_obeyNext_141 : decode cX6_obeyNext 141 = .ok (.aload_n 0, 1) := by decide +kernel
theorem dX6_obeyNext_142 : decode cX6_obeyNext 142 = .ok (.getfield 21, 3) := by decide +kernel
theorem dX6_obeyNext_145 : decode cX6_obeyNext 145 = .ok (.aload_n 0, 1) := by decide +kernel
theorem dX6_obeyNext_146 : decode cX6_obeyNext 146 = .ok (.getfield 41, 3) := by decide +kernel
theorem dX6_obeyNext_149 : decode cX6_obeyNext 149 = .ok (.iconst 0, 1) := by decide +kernel
theorem dX6_obeyNext_150 : decode cX6_obeyNext 150 = .ok (.invokevirtual 359, 3) := by decide +kernel
theorem dX6_obeyNext_153 : decode cX6_obeyNext 153 = .ok (.invokevirtual 105, 3) := by decide +kernel
theorem dX6_obeyNext_156 : decode cX6_obeyNext 156 = .ok (.ireturn, 1) := by decide +kernel
theorem dX6_obeyNext_157 : decode cX6_obeyNext 157 = .ok (.aload_n 0, 1) := by decide +kernel
theorem dX6_obeyNext_158 : decode cX6_obeyNext 158 = .ok (.getfield 21, 3) := by decide +kernel
theorem dX6_obeyNext_161 : decode cX6_obeyNext 161 = .ok (.aload_n 0, 1) := by decide +kernel
theorem dX6_obeyNext_162 : decode cX6_obeyNext 162 = .ok (.getfield 41, 3) := by decide +kernel
theorem dX6_obeyNext_165 : decode cX6_obeyNext 165 = .ok (.iconst 0, 1) := by decide +kernel
theorem dX6_obeyNext_166 : decode cX6_obeyNext 166 = .ok (.invokevirtual 359, 3) := by decide +kernel
theorem dX6_obeyNext_169 : decode cX6_obeyNext 169 = .ok (.invokevirtual 115, 3) := by decide +kernel
theorem dX6_obeyNext_172 : decode cX6_obeyNext 172 = .ok (.ireturn, 1) := by decide +kernel
theorem dX6_obeyNext_173 : decode cX6_obeyNext 173 = .ok (.aload_n 0, 1) := by decide +kernel
theorem dX6_obeyNext_174 : decode cX6_obeyNext 174 = .ok (.getfield 21, 3) := by decide +kernel
theorem dX6_obeyNext_177 : decode cX6_obeyNext 177 = .ok (.aload_n 0, 1) := by decide +kernel
theorem dX6_obeyNext_178 : decode cX6_obeyNext 178 = .ok (.getfield 41, 3) := by decide +kernel
theorem dX6_obeyNext_181 : decode cX6_obeyNext 181 = .ok (.iconst 0, 1) := by decide +kernel
theorem dX6_obeyNext_182 : decode cX6_obeyNext 182 = .ok (.invokevirtual 359, 3) := by decide +kernel
theorem dX6_obeyNext_185 : decode cX6_obeyNext 185 = .ok (.invokevirtual 127, 3) := by decide +kernel
theorem dX6_obeyNext_188 : decode cX6_obeyNext 188 = .ok (.ireturn, 1) := by decide +kernel
theorem dX6_obeyNext_189 : decode cX6_obeyNext 189 = .ok (.aload_n 0, 1) := by decide +kernel
theorem dX6_obeyNext_190 : decode cX6_obeyNext 190 = .ok (.getfield 21, 3) := by decide +kernel
theorem dX6_obeyNext_193 : decode cX6_obeyNext 193 = .ok (.aload_n 0, 1) := by decide +kernel
theorem dX6_obeyNext_194 : decode cX6_obeyNext 194 = .ok (.getfield 41, 3) := by decide +kernel
theorem dX6_obeyNext_197 : decode cX6_obeyNext 197 = .ok (.iconst 0, 1) := by decide +kernel
theorem dX6_obeyNext_198 : decode cX6_obeyNext 198 = .ok (.invokevirtual 359, 3) := by decide +kernel
theorem dX6_obeyNext_201 : decode cX6_obeyNext 201 = .ok (.invokevirtual 134, 3) := by decide +kernel
theorem dX6_obeyNext_204 : decode cX6_obeyNext 204 = .ok (.ireturn, 1) := by decide +kernel
theorem dX6_obeyNext_205 : decode cX6_obeyNext 205 = .ok (.aload_n 0, 1) := by decide +kernel
theorem dX6_obeyNext_206 : decode cX6_obeyNext 206 = .ok (.getfield 21, 3) := by decide +kernel
theorem dX6_obeyNext_209 : decode cX6_obeyNext 209 = .ok (.aload_n 0, 1) := by decide +kernel
theorem dX6_obeyNext_210 : decode cX6_obeyNext 210 = .ok (.getfield 41, 3) := by decide +kernel
theorem dX6_obeyNext_213 : decode cX6_obeyNext 213 = .ok (.iconst 0, 1) := by decide +kernel
theorem dX6_obeyNext_214 : decode cX6_obeyNext 214 = .ok (.invokevirtual 359, 3) := by decide +kernel
theorem dX6_obeyNext_217 : decode cX6_obeyNext 217 = .ok (.invokevirtual 139, 3) := by decide +kernel
theorem dX6_obeyNext_220 : decode cX6_obeyNext 220 = .ok (.ireturn, 1) := by decide +kernel
theorem dX6_obeyNext_221 : decode cX6_obeyNext 221 = .ok (.aload_n 0, 1) := by decide +kernel
theorem dX6_obeyNext_222 : decode cX6_obeyNext 222 = .ok (.getfield 21, 3) := by decide +kernel
theorem dX6_obeyNext_225 : decode cX6_obeyNext 225 = .ok (.aload_n 0, 1) := by decide +kernel
theorem dX6_obeyNext_226 : decode cX6_obeyNext 226 = .ok (.getfield 41, 3) := by decide +kernel
theorem dX6_obeyNext_229 : decode cX6_obeyNext 229 = .ok (.iconst 0, 1) := by decide +kernel
theorem dX6_obeyNext_230 : decode cX6_obeyNext 230 = .ok (.invokevirtual 359, 3) := by decide +kernel
theorem dX6_obeyNext_233 : decode cX6_obeyNext 233 = .ok (.invokevirtual 144, 3) := by decide +kernel
theorem dX6_obeyNext_236 : decode cX6_obeyNext 236 = .ok (.ireturn, 1) := by decide +kernel
set_option maxRecDepth 20000 in
theorem ggX6_undo_X0_pop : GoodIn wsX6_undo wsX0_pop := goodIn_r _ [10, 11, 12, 77, 78, 79] (by decide +kernel) (by decide +kernel)
set_option maxRecDepth 20000 in
theorem gX6_undo_X0_pop : GoodIn wsX6_undo (wsV RX6 369 RX0 yX0_pop wsX0_pop) := goodIn_app (goodIn_of _ (by decide +kernel)) ggX6_undo_X0_pop
set_option maxRecDepth 20000 in
theorem ggX6_undo_X0_read : GoodIn wsX6_undo wsX0_read := goodIn_r _ [16, 17, 18, 19, 9, 20, 11, 21, 22, 23, 24, 25, 26, 27, 28, 29, 30, 31, 32, 33, 34, 35, 36, 37, 38, 39, 40, 41, 42, 43, 44, 45, 46, 47, 48, 49, 50, 51, 52, 53, 54, 55, 56, 57, 58, 59, 60, 61, 62, 63, 64, 65, 66, 77, 78, 79, 80, 81, 82, 83, 84, 85, 86, 87, 88, 89, 90, 91, 92, 93, 94, 95, 96, 97, 98, 99, 100, 101, 102, 103, 104, 105] (by decide +kernel) (by decide +kernel)
set_option maxRecDepth 20000 in
theorem gX6_undo_X0_read : GoodIn wsX6_undo (wsV RX6 348 RX0 yX0_read wsX0_read) := goodIn_app (goodIn_of _ (by decide +kernel)) ggX6_undo_X0_read
theorem dX6_undo_0 : decode cX6_undo 0 = .ok (.aload_n 0, 1) := by decide +kernel
theorem dX6_undo_1 : decode cX6_undo 1 = .ok (.getfield 34, 3) := by decide +kernel
theorem dX6_undo_4 : decode cX6_undo 4 = .ok (.getfield 366, 3) := by decide +kernel
theorem dX6_undo_7 : decode cX6_undo 7 = .ok (.ifCond .gt 14, 3) := by decide +kernel
theorem dX6_undo_10 : decode cX6_undo 10 = .ok (.new 110, 3) := by decide +kernel
theorem dX6_undo_13 : decode cX6_undo 13 = .ok (.dup, 1) := by decide +kernel
theorem dX6_undo_14 : decode cX6_undo 14 = .ok (.ldc_w 367, 3) := by decide +kernel
theorem dX6_undo_17 : decode cX6_undo 17 = .ok (.invokespecial 114, 3) := by decide +kernel
theorem dX6_undo_20 : decode cX6_undo 20 = .ok (.athrow, 1) := by decide +kernel
theorem dX6_undo_21 : decode cX6_undo 21 = .ok (.aload_n 0, 1) := by decide +kernel
theorem dX6_undo_22 : decode cX6_undo 22 = .ok (.getfield 34, 3) := by decide +kernel
theorem dX6_undo_25 : decode cX6_undo 25 = .ok (.invokevirtual 369, 3) := by decide +kernel
theorem dX6_undo_28 : decode cX6_undo 28 = .ok (.aload_n 0, 1) := by decide +kernel
theorem dX6_undo_29 : decode cX6_undo 29 = .ok (.getfield 34, 3) := by decide +kernel
theorem dX6_undo_32 : decode cX6_undo 32 = .ok (.aload_n 0, 1) := by decide +kernel
theorem dX6_undo_33 : decode cX6_undo 33 = .ok (.getfield 21, 3) := by decide +kernel
theorem dX6_undo_36 : decode cX6_undo 36 = .ok (.invokevirtual 348, 3) := by decide +kernel
theorem dX6_undo_39 : decode cX6_undo 39 = .ok (.aload_n 0, 1) := by decide +kernel
theorem dX6_undo_40 : decode cX6_undo 40 = .ok (.getfield 34, 3) := by decide +kernel
theorem dX6_undo_43 : decode cX6_undo 43 = .ok (.getfield 366, 3) := by decide +kernel
theorem dX6_undo_46 : decode cX6_undo 46 = .ok (.ireturn, 1) := by decide +kernel
set_option maxRecDepth 20000 in
theorem ggX6_save_X5_copyFrom : GoodIn wsX6_save wsX5_copyFrom := goodIn_r _ [10, 11, 12, 13, 14, 15, 16, 17, 18, 19, 20, 21, 22, 23, 24, 25, 26, 27, 28, 29, 30, 31, 32, 33, 34, 35, 36, 37, 38, 39, 40, 41, 42, 43, 44, 45, 46, 47, 48, 49, 50, 61, 62, 63, 64, 65, 66, 67, 68, 69, 70, 71, 72, 73, 74, 75, 76, 77, 78, 79, 80, 81, 82, 83, 84, 85, 86] (by decide +kernel) (by decide +kernel)
set_option maxRecDepth 20000 in
theorem gX6_save_X5_copyFrom : GoodIn wsX6_save (wsV RX6 255 RX5 yX5_copyFrom wsX5_copyFrom) := goodIn_app (goodIn_of _ (by decide +kernel)) ggX6_save_X5_copyFrom
theorem dX6_save_0 : decode cX6_save 0 = .ok (.aload_n 0, 1) := by decide +kernel
theorem dX6_save_1 : decode cX6_save 1 = .ok (.getfield 28, 3) := by decide +kernel
theorem dX6_save_4 : decode cX6_save 4 = .ok (.aload_n 0, 1) := by decide +kernel
theorem dX6_save_5 : decode cX6_save 5 = .ok (.getfield 21, 3) := by decide +kernel
theorem dX6_save_8 : decode cX6_save 8 = .ok (.invokevirtual 255, 3) := by decide +kernel
theorem dX6_save_11 : decode cX6_save 11 = .ok (.aload_n 0, 1) := by decide +kernel
theorem dX6_save_12 : decode cX6_save 12 = .ok (.iconst 1, 1) := by decide +kernel
theorem dX6_save_13 : decode cX6_save 13 = .ok (.putfield 52, 3) := by decide +kernel
theorem dX6_save_16 : decode cX6_save 16 = .ok (.aload_n 0, 1) := by decide +kernel
theorem dX6_save_17 : decode cX6_save 17 = .ok (.getfield 21, 3) := by decide +kernel
theorem dX6_save_20 : decode cX6_save 20 = .ok (.getfield 149, 3) := by decide +kernel
theorem dX6_save_23 : decode cX6_save 23 = .ok (.getfield 153, 3) := by decide +kernel
theorem dX6_save_26 : decode cX6_save 26 = .ok (.ireturn, 1) := by decide +kernel
set_option maxRecDepth 20000 in
theorem ggX6_restore_X5_copyFrom : GoodIn wsX6_restore wsX5_copyFrom := goodIn_r _ [14, 15, 16, 17, 18, 19, 20, 21, 22, 23, 24, 25, 26, 27, 28, 29, 30, 31, 32, 33, 34, 35, 36, 37, 38, 39, 40, 41, 42, 43, 44, 45, 46, 47, 48, 49, 50, 51, 52, 53, 54, 68, 69, 70, 71, 72, 73, 74, 75, 76, 77, 78, 79, 80, 81, 82, 83, 84, 85, 86, 87, 88, 89, 90, 91, 92, 93] (by decide +kernel) (by decide +kernel)
set_option maxRecDepth 20000 in
theorem gX6_restore_X5_copyFrom : GoodIn wsX6_restore (wsV RX6 255 RX5 yX5_copyFrom wsX5_copyFrom) := goodIn_app (goodIn_of _ (by decide +kernel)) ggX6_restore_X5_copyFrom
theorem dX6_restore_0 : decode cX6_restore 0 = .ok (.aload_n 0, 1) := by decide +kernel
theorem dX6_restore_1 : decode cX6_restore 1 = .ok (.getfield 52, 3) := by decide +kernel
theorem dX6_restore_4 : decode cX6_restore 4 = .ok (.ifCond .ne 14, 3) := by decide +kernel
theorem dX6_restore_7 : decode cX6_restore 7 = .ok (.new 83, 3) := by decide +kernel
theorem dX6_restore_10 : decode cX6_restore 10 = .ok (.dup, 1) := by decide +kernel
theorem dX6_restore_11 : decode cX6_restore 11 = .ok (.ldc_w 372, 3) := by decide +kernel
theorem dX6_restore_14 : decode cX6_restore 14 = .ok (.invokespecial 87, 3) := by decide +kernel
theorem dX6_restore_17 : decode cX6_restore 17 = .ok (.athrow, 1) := by decide +kernel
theorem dX6_restore_18 : decode cX6_restore 18 = .ok (.aload_n 0, 1) := by decide +kernel
theorem dX6_restore_19 : decode cX6_restore 19 = .ok (.getfield 21, 3) := by decide +kernel
theorem dX6_restore_22 : decode cX6_restore 22 = .ok (.aload_n 0, 1) := by decide +kernel
theorem dX6_restore_23 : decode cX6_restore 23 = .ok (.getfield 28, 3) := by decide +kernel
theorem dX6_restore_26 : decode cX6_restore 26 = .ok (.invokevirtual 255, 3) := by decide +kernel
theorem dX6_restore_29 : decode cX6_restore 29 = .ok (.aload_n 0, 1) := by decide +kernel
theorem dX6_restore_30 : decode cX6_restore 30 = .ok (.getfield 34, 3) := by decide +kernel
theorem dX6_restore_33 : decode cX6_restore 33 = .ok (.iconst 0, 1) := by decide +kernel
theorem dX6_restore_34 : decode cX6_restore 34 = .ok (.putfield 366, 3) := by decide +kernel
theorem dX6_restore_37 : decode cX6_restore 37 = .ok (.aload_n 0, 1) := by decide +kernel
theorem dX6_restore_38 : decode cX6_restore 38 = .ok (.getfield 21, 3) := by decide +kernel
theorem dX6_restore_41 : decode cX6_restore 41 = .ok (.getfield 149, 3) := by decide +kernel
theorem dX6_restore_44 : decode cX6_restore 44 = .ok (.getfield 153, 3) := by decide +kernel
theorem dX6_restore_47 : decode cX6_restore 47 = .ok (.ireturn, 1) := by decide +kernel
theorem dX6_isJunction_0 : decode cX6_isJunction 0 = .ok (.iload_n 0, 1) := by decide +kernel
theorem dX6_isJunction_1 : decode cX6_isJunction 1 = .ok (.ifCond .lt 13, 3) := by decide +kernel
theorem dX6_isJunction_4 : decode cX6_isJunction 4 = .ok (.iload_n 0, 1) := by decide +kernel
theorem dX6_isJunction_5 : decode cX6_isJunction 5 = .ok (.bipush 8, 2) := by decide +kernel
theorem dX6_isJunction_7 : decode cX6_isJunction 7 = .ok (.if_icmp .ge 7, 3) := by decide +kernel
theorem dX6_isJunction_10 : decode cX6_isJunction 10 = .ok (.iconst 1, 1) := by decide +kernel
theorem dX6_isJunction_11 : decode cX6_isJunction 11 = .ok (.goto 4, 3) := by decide +kernel
theorem dX6_isJunction_14 : decode cX6_isJunction 14 = .ok (.iconst 0, 1) := by decide +kernel
theorem dX6_isJunction_15 : decode cX6_isJunction 15 = .ok (.ireturn, 1) := by decide +kernel
