theorem dL_crash_15 : decode cL_crash 15 = .ok (.iconst 0, 1) := by decide +kernel
theorem dL_crash_16 : decode cL_crash 16 = .ok (.ireturn, 1) := by decide +kernel
set_option maxRecDepth 20000 in
theorem ggL_start_X2_start : GoodIn wsL_start wsX2_start := goodIn_ca (goodIn_r _ [6, 7, 8, 9, 10, 11, 12, 13, 5, 14, 15, 16, 17, 18, 19, 20, 21, 22, 23, 24, 25, 26, 27, 28, 29, 30, 31, 32, 33, 34, 35, 36, 37, 38, 39, 40, 41, 42, 43, 44, 45, 46, 47, 48, 49, 50, 51, 52, 53, 54, 55, 56, 57, 58, 59, 60, 61, 62, 63, 64, 65, 66, 67, 68, 69, 70, 71, 72, 73, 74, 75, 76, 77, 78, 79, 80, 81, 82, 83, 84, 85, 86] rfl (by decide +kernel)) (goodIn_sub (fun _ h => List.mem_cons_of_mem _ (List.mem_append_right _ h)) (by decide +kernel))
set_option maxRecDepth 20000 in
theorem gL_start_X2_start : GoodIn wsL_start (wsV RL 50 RX2 yX2_start wsX2_start) := goodIn_app (goodIn_of _ (by decide +kernel)) ggL_start_X2_start
theorem dL_start_0 : decode cL_start 0 = .ok (.aload_n 1, 1) := by decide +kernel
theorem dL_start_1 : decode cL_start 1 = .ok (.iconst 0, 1) := by decide +kernel
theorem dL_start_2 : decode cL_start 2 = .ok (.aload_n 0, 1) := by decide +kernel
theorem dL_start_3 : decode cL_start 3 = .ok (.invokevirtual 50, 3) := by decide +kernel
theorem dL_start_6 : decode cL_start 6 = .ok (.i2l, 1) := by decide +kernel
theorem dL_start_7 : decode cL_start 7 = .ok (.lastore, 1) := by decide +kernel
theorem dL_start_8 : decode cL_start 8 = .ok (.goto 6, 3) := by decide +kernel
theorem dL_start_11 : decode cL_start 11 = .ok (.astore_n 2, 1) := by decide +kernel
theorem dL_start_12 : decode cL_start 12 = .ok (.iconst 1, 1) := by decide +kernel
theorem dL_start_13 : decode cL_start 13 = .ok (.ireturn, 1) := by decide +kernel
theorem dL_start_14 : decode cL_start 14 = .ok (.iconst 0, 1) := by decide +kernel
theorem dL_start_15 : decode cL_start 15 = .ok (.ireturn, 1) := by decide +kernel
set_option maxRecDepth 20000 in
theorem ggL_good_X2_good : GoodIn wsL_good wsX2_good := goodIn_ca (goodIn_ca (goodIn_ca (goodIn_r _ [8, 9, 10, 11, 12, 13, 14, 15, 7, 16, 17, 18, 19, 20, 21, 22, 23, 24, 25, 26, 27, 28, 29, 30, 31, 32, 33, 34, 35, 36, 37, 38, 39, 40, 41, 42, 43, 44, 45, 46, 47, 48, 49, 50, 51, 52, 53, 54, 55, 56, 57, 58, 59, 60, 61, 62, 63, 64, 65, 66, 67, 68, 69, 70, 71, 72, 73, 74, 75] rfl (by decide +kernel)) (goodIn_sub (fun _ h => List.mem_cons_of_mem _ (List.mem_append_left _ (List.mem_append_left _ (List.mem_append_right _ h)))) (by decide +kernel))) (goodIn_sub (fun _ h => List.mem_cons_of_mem _ (List.mem_append_left _ (List.mem_append_right _ h))) (by decide +kernel))) (goodIn_sub (fun _ h => List.mem_cons_of_mem _ (List.mem_append_right _ h)) (by decide +kernel))
set_option maxRecDepth 20000 in
theorem gL_good_X2_good : GoodIn wsL_good (wsV RL 53 RX2 yX2_good wsX2_good) := goodIn_app (goodIn_of _ (by decide +kernel)) ggL_good_X2_good
theorem dL_good_0 : decode cL_good 0 = .ok (.aload_n 2, 1) := by decide +kernel
theorem dL_good_1 : decode cL_good 1 = .ok (.iconst 0, 1) := by decide +kernel
theorem dL_good_2 : decode cL_good 2 = .ok (.aload_n 0, 1) := by decide +kernel
theorem dL_good_3 : decode cL_good 3 = .ok (.iload_n 1, 1) := by decide +kernel
theorem dL_good_4 : decode cL_good 4 = .ok (.invokevirtual 53, 3) := by decide +kernel
theorem dL_good_7 : decode cL_good 7 = .ok (.ifCond .eq 7, 3) := by decide +kernel
theorem dL_good_10 : decode cL_good 10 = .ok (.lconst 1, 1) := by decide +kernel
theorem dL_good_11 : decode cL_good 11 = .ok (.goto 4, 3) := by decide +kernel
theorem dL_good_14 : decode cL_good 14 = .ok (.lconst 0, 1) := by decide +kernel
theorem dL_good_15 : decode cL_good 15 = .ok (.lastore, 1) := by decide +kernel
theorem dL_good_16 : decode cL_good 16 = .ok (.goto 12, 3) := by decide +kernel
theorem dL_good_19 : decode cL_good 19 = .ok (.astore_n 3, 1) := by decide +kernel
theorem dL_good_20 : decode cL_good 20 = .ok (.iconst 1, 1) := by decide +kernel
theorem dL_good_21 : decode cL_good 21 = .ok (.ireturn, 1) := by decide +kernel
theorem dL_good_22 : decode cL_good 22 = .ok (.astore_n 3, 1) := by decide +kernel
theorem dL_good_23 : decode cL_good 23 = .ok (.iconst 2, 1) := by decide +kernel
theorem dL_good_24 : decode cL_good 24 = .ok (.ireturn, 1) := by decide +kernel
theorem dL_good_25 : decode cL_good 25 = .ok (.astore_n 3, 1) := by decide +kernel
theorem dL_good_26 : decode cL_good 26 = .ok (.iconst 3, 1) := by decide +kernel
theorem dL_good_27 : decode cL_good 27 = .ok (.ireturn, 1) := by decide +kernel
theorem dL_good_28 : decode cL_good 28 = .ok (.iconst 0, 1) := by decide +kernel
theorem dL_good_29 : decode cL_good 29 = .ok (.ireturn, 1) := by decide +kernel
set_option maxRecDepth 20000 in
theorem ggL_layout_X2_layout : GoodIn wsL_layout wsX2_layout := goodIn_ca (goodIn_ca (goodIn_r _ [7, 8, 9, 10, 6, 11, 12, 13, 14, 15, 16, 17, 18, 19, 20, 21, 22, 23, 24, 25, 26, 27, 28, 29, 30, 31, 32, 33, 34, 35, 36, 37, 38, 39, 40, 41, 42, 43, 44, 45, 46, 47, 48, 49] rfl (by decide +kernel)) (goodIn_sub (fun _ h => List.mem_cons_of_mem _ (List.mem_append_left _ (List.mem_append_right _ h))) (by decide +kernel))) (goodIn_sub (fun _ h => List.mem_cons_of_mem _ (List.mem_append_right _ h)) (by decide +kernel))
set_option maxRecDepth 20000 in
theorem gL_layout_X2_layout : GoodIn wsL_layout (wsV RL 57 RX2 yX2_layout wsX2_layout) := goodIn_app (goodIn_of _ (by decide +kernel)) ggL_layout_X2_layout
theorem dL_layout_0 : decode cL_layout 0 = .ok (.aload_n 2, 1) := by decide +kernel
theorem dL_layout_1 : decode cL_layout 1 = .ok (.iconst 0, 1) := by decide +kernel
theorem dL_layout_2 : decode cL_layout 2 = .ok (.aload_n 0, 1) := by decide +kernel
theorem dL_layout_3 : decode cL_layout 3 = .ok (.iload_n 1, 1) := by decide +kernel
theorem dL_layout_4 : decode cL_layout 4 = .ok (.invokevirtual 57, 3) := by decide +kernel
theorem dL_layout_7 : decode cL_layout 7 = .ok (.i2l, 1) := by decide +kernel
theorem dL_layout_8 : decode cL_layout 8 = .ok (.lastore, 1) := by decide +kernel
theorem dL_layout_9 : decode cL_layout 9 = .ok (.goto 9, 3) := by decide +kernel
theorem dL_layout_12 : decode cL_layout 12 = .ok (.astore_n 3, 1) := by decide +kernel
theorem dL_layout_13 : decode cL_layout 13 = .ok (.iconst 1, 1) := by decide +kernel
theorem dL_layout_14 : decode cL_layout 14 = .ok (.ireturn, 1) := by decide +kernel
theorem dL_layout_15 : decode cL_layout 15 = .ok (.astore_n 3, 1) := by decide +kernel
theorem dL_layout_16 : decode cL_layout 16 = .ok (.iconst 2, 1) := by decide +kernel
theorem dL_layout_17 : decode cL_layout 17 = .ok (.ireturn, 1) := by decide +kernel
theorem dL_layout_18 : decode cL_layout 18 = .ok (.iconst 0, 1) := by decide +kernel
theorem dL_layout_19 : decode cL_layout 19 = .ok (.ireturn, 1) := by decide +kernel
set_option maxRecDepth 20000 in
theorem ggL_cell_X2_cell : GoodIn wsL_cell wsX2_cell := goodIn_ca (goodIn_ca (goodIn_r _ [7, 8, 9, 10, 11, 12, 13, 6, 14, 15, 16, 17, 18, 19, 20, 21, 22, 23, 24, 25, 26, 27, 28, 29, 30, 31, 32, 33, 34, 35, 36, 37, 38, 39, 40, 41, 42, 43, 44, 45, 46, 47, 48, 49, 50, 51, 52, 53, 54, 55] rfl (by decide +kernel)) (goodIn_sub (fun _ h => List.mem_cons_of_mem _ (List.mem_append_left _ (List.mem_append_right _ h))) (by decide +kernel))) (goodIn_sub (fun _ h => List.mem_cons_of_mem _ (List.mem_append_right _ h)) (by decide +kernel))
set_option maxRecDepth 20000 in
theorem gL_cell_X2_cell : GoodIn wsL_cell (wsV RL 60 RX2 yX2_cell wsX2_cell) := goodIn_app (goodIn_of _ (by decide +kernel)) ggL_cell_X2_cell
theorem dL_cell_0 : decode cL_cell 0 = .ok (.aload 4, 2) := by decide +kernel
theorem dL_cell_2 : decode cL_cell 2 = .ok (.iconst 0, 1) := by decide +kernel
theorem dL_cell_3 : decode cL_cell 3 = .ok (.aload_n 0, 1) := by decide +kernel
theorem dL_cell_4 : decode cL_cell 4 = .ok (.iload_n 1, 1) := by decide +kernel
theorem dL_cell_5 : decode cL_cell 5 = .ok (.iload_n 2, 1) := by decide +kernel
theorem dL_cell_6 : decode cL_cell 6 = .ok (.iload_n 3, 1) := by decide +kernel
theorem dL_cell_7 : decode cL_cell 7 = .ok (.invokevirtual 60, 3) := by decide +kernel
theorem dL_cell_10 : decode cL_cell 10 = .ok (.i2l, 1) := by decide +kernel
theorem dL_cell_11 : decode cL_cell 11 = .ok (.lastore, 1) := by decide +kernel
theorem dL_cell_12 : decode cL_cell 12 = .ok (.goto 11, 3) := by decide +kernel
theorem dL_cell_15 : decode cL_cell 15 = .ok (.astore 5, 2) := by decide +kernel
theorem dL_cell_17 : decode cL_cell 17 = .ok (.iconst 1, 1) := by decide +kernel
theorem dL_cell_18 : decode cL_cell 18 = .ok (.ireturn, 1) := by decide +kernel
theorem dL_cell_19 : decode cL_cell 19 = .ok (.astore 5, 2) := by decide +kernel
theorem dL_cell_21 : decode cL_cell 21 = .ok (.iconst 2, 1) := by decide +kernel
theorem dL_cell_22 : decode cL_cell 22 = .ok (.ireturn, 1) := by decide +kernel
theorem dL_cell_23 : decode cL_cell 23 = .ok (.iconst 0, 1) := by decide +kernel
theorem dL_cell_24 : decode cL_cell 24 = .ok (.ireturn, 1) := by decide +kernel
set_option maxRecDepth 20000 in
theorem ggL_marks_X2_marks : GoodIn wsL_marks wsX2_marks := goodIn_ca (goodIn_ca (goodIn_r _ [7, 8, 9, 10, 11, 12, 13, 6, 14, 15, 16, 17, 18, 19, 20, 21, 22, 23, 24, 25, 26, 27, 28, 29, 30, 31, 32, 33, 34, 35, 36, 37, 38, 39, 40, 41, 42, 43, 44, 45, 46, 47, 48, 49, 50, 51, 52, 53, 54, 55, 56] rfl (by decide +kernel)) (goodIn_sub (fun _ h => List.mem_cons_of_mem _ (List.mem_append_left _ (List.mem_append_right _ h))) (by decide +kernel))) (goodIn_sub (fun _ h => List.mem_cons_of_mem _ (List.mem_append_right _ h)) (by decide +kernel))
set_option maxRecDepth 20000 in
theorem gL_marks_X2_marks : GoodIn wsL_marks (wsV RL 64 RX2 yX2_marks wsX2_marks) := goodIn_app (goodIn_of _ (by decide +kernel)) ggL_marks_X2_marks
theorem dL_marks_0 : decode cL_marks 0 = .ok (.aload_n 3, 1) := by decide +kernel
theorem dL_marks_1 : decode cL_marks 1 = .ok (.iconst 0, 1) := by decide +kernel
theorem dL_marks_2 : decode cL_marks 2 = .ok (.aload_n 0, 1) := by decide +kernel
theorem dL_marks_3 : decode cL_marks 3 = .ok (.iload_n 1, 1) := by decide +kernel
theorem dL_marks_4 : decode cL_marks 4 = .ok (.iload_n 2, 1) := by decide +kernel
theorem dL_marks_5 : decode cL_marks 5 = .ok (.invokevirtual 64, 3) := by decide +kernel
theorem dL_marks_8 : decode cL_marks 8 = .ok (.i2l, 1) := by decide +kernel
theorem dL_marks_9 : decode cL_marks 9 = .ok (.lastore, 1) := by decide +kernel
theorem dL_marks_10 : decode cL_marks 10 = .ok (.goto 11, 3) := by decide +kernel
theorem dL_marks_13 : decode cL_marks 13 = .ok (.astore 4, 2) := by decide +kernel
theorem dL_marks_15 : decode cL_marks 15 = .ok (.iconst 1, 1) := by decide +kernel
theorem dL_marks_16 : decode cL_marks 16 = .ok (.ireturn, 1) := by decide +kernel
theorem dL_marks_17 : decode cL_marks 17 = .ok (.astore 4, 2) := by decide +kernel
theorem dL_marks_19 : decode cL_marks 19 = .ok (.iconst 2, 1) := by decide +kernel
theorem dL_marks_20 : decode cL_marks 20 = .ok (.ireturn, 1) := by decide +kernel
theorem dL_marks_21 : decode cL_marks 21 = .ok (.iconst 0, 1) := by decide +kernel
theorem dL_marks_22 : decode cL_marks 22 = .ok (.ireturn, 1) := by decide +kernel
set_option maxRecDepth 20000 in
theorem ggL_law_X2_init : GoodIn wsL_law wsX2_init := goodIn_r _ [9, 10, 11, 12, 13, 14, 15, 16, 17, 18, 19, 20, 21, 22, 23, 24, 25, 26, 27, 28, 29, 30, 31, 32, 33, 34, 35, 36, 37, 38, 554, 555, 556, 557, 558, 559, 560, 561, 562, 563, 588, 589, 590, 591, 592, 593, 594, 595, 596, 597, 598, 599] rfl (by decide +kernel)
set_option maxRecDepth 20000 in
theorem gL_law_X2_init : GoodIn wsL_law (wsX2_init) := ggL_law_X2_init
set_option maxRecDepth 20000 in
theorem ggL_law_X3_init : GoodIn wsL_law wsX3_init := goodIn_r _ [41, 42, 11, 12, 43, 44, 19, 45, 46, 47, 48, 49, 50, 51, 52, 53, 564, 565, 566, 567, 568, 569, 570, 571, 572, 573, 574, 575, 576, 577, 578, 579, 580, 581, 582, 583, 584, 585, 586, 587] rfl (by decide +kernel)
set_option maxRecDepth 20000 in
theorem gL_law_X3_init : GoodIn wsL_law (wsX3_init) := ggL_law_X3_init
set_option maxRecDepth 20000 in
theorem ggL_law_L_format : GoodIn wsL_law wsL_format := goodIn_ca (goodIn_r _ [57, 58, 59, 60, 61, 2, 62, 63, 64, 14, 65, 66, 22, 23, 67, 18, 68, 69, 70, 25, 71, 32, 34, 35, 72, 73, 74, 75, 76, 77, 78, 79, 17, 80, 81, 82, 83, 84, 85, 86, 87, 88, 89, 90, 91, 92, 93, 94, 95, 96, 97, 98, 36, 38, 99, 100, 101, 102, 103, 104, 105, 106, 107, 108, 109, 110, 111, 112, 113, 114, 115, 116, 117, 118, 119, 37, 120, 121, 122, 123, 124, 125, 126, 127, 128, 129, 130, 131, 132, 133, 134, 135, 554, 555, 556, 557, 558, 559, 560, 561, 562, 563, 588, 589, 590, 591, 592, 593, 594, 595, 596, 597, 598, 599] rfl (by decide +kernel)) (goodIn_sub (fun _ h => List.mem_append_left _ (List.mem_append_left _ (List.mem_append_left _ (List.mem_append_right _ h)))) (by decide +kernel))
set_option maxRecDepth 20000 in
theorem gL_law_L_format : GoodIn wsL_law (va_wsS RL 71 yL_format wsL_format) := goodIn_app (goodIn_of _ (by decide +kernel)) ggL_law_L_format
set_option maxRecDepth 20000 in
theorem ggL_law_X3_format : GoodIn wsL_law wsX3_format := goodIn_r _ [139, 140, 141, 142, 143, 43, 44, 144, 145, 146, 147, 45, 46, 148, 149, 150, 5, 151, 152, 153, 154, 155, 156, 157, 158, 159, 160, 161, 162, 163, 164, 165, 49, 166, 167, 168, 169, 47, 48, 170, 171, 172, 173, 174, 50, 51, 175, 176, 177, 178, 179, 180, 181, 182, 183, 184, 185, 186, 187, 188, 189, 190, 564, 565, 566, 567, 568, 569, 570, 571, 572, 573, 574, 575, 576, 577, 578, 579, 580, 581, 582, 583, 584, 585, 586, 587] rfl (by decide +kernel)
set_option maxRecDepth 20000 in
theorem gL_law_X3_format : GoodIn wsL_law (wsV RL 76 RX3 yX3_format wsX3_format) := goodIn_app (goodIn_of _ (by decide +kernel)) ggL_law_X3_format
set_option maxRecDepth 20000 in
theorem ggL_law_X3_thrown : GoodIn wsL_law wsX3_thrown := goodIn_r _ [194, 140, 564, 565, 566, 567, 568, 569, 570, 571, 572, 573, 574, 575, 576, 577, 578, 579, 580, 581, 582, 583, 584, 585, 586, 587] rfl (by decide +kernel)
set_option maxRecDepth 20000 in
theorem gL_law_X3_thrown : GoodIn wsL_law (wsV RL 77 RX3 yX3_thrown wsX3_thrown) := goodIn_app (goodIn_of _ (by decide +kernel)) ggL_law_X3_thrown
set_option maxRecDepth 20000 in
theorem ggL_law_L_write : GoodIn wsL_law wsL_write := goodIn_ca (goodIn_ca (goodIn_ca (goodIn_r _ [197, 198, 199, 200, 201, 202, 203, 2, 204, 205, 206, 207, 208, 209, 210, 65, 66, 211, 212, 213, 214, 215, 216, 132, 133, 134, 135, 18, 217, 218, 219, 220, 221, 222, 223, 224, 225, 226, 227, 228, 67, 229, 230, 231, 232, 233, 234, 235, 236, 237, 238, 239, 240, 20, 14, 241, 242, 243, 244, 245, 246, 247, 248, 249, 250, 251, 252, 253, 254, 112, 113, 114, 115, 22, 23, 255, 256, 257, 258, 259, 260, 261, 25, 262, 32, 263, 264, 265, 266, 72, 36, 37, 120, 121, 122, 123, 267, 268, 269, 270, 21, 103, 104, 105, 106, 107, 108, 109, 110, 111, 116, 117, 118, 119, 38, 124, 125, 126, 127, 128, 129, 130, 131, 35, 34, 99, 100, 101, 17, 102, 81, 82, 83, 84, 85, 271, 272, 273, 274, 275, 276, 554, 555, 556, 557, 558, 559, 560, 561, 562, 563, 588, 589, 590, 591, 592, 593, 594, 595, 596, 597, 598, 599] rfl (by decide +kernel)) (goodIn_sub (fun _ h => List.mem_append_left _ (List.mem_append_left _ (List.mem_append_right _ h))) (by decide +kernel))) (goodIn_sub (fun _ h => List.mem_append_left _ (List.mem_append_right _ h)) (by decide +kernel))) (goodIn_sub (fun _ h => List.mem_append_right _ h) (by decide +kernel))
set_option maxRecDepth 20000 in
theorem gL_law_L_write : GoodIn wsL_law (va_wsS RL 80 yL_write wsL_write) := goodIn_app (goodIn_of _ (by decide +kernel)) ggL_law_L_write
set_option maxRecDepth 20000 in
theorem ggL_law_X3_write : GoodIn wsL_law wsX3_write := goodIn_r _ [280, 144, 53, 52, 281, 282, 283, 5, 284, 141, 142, 140, 285, 286, 287, 288, 187, 188, 189, 190, 149, 150, 151, 152, 153, 154, 155, 289, 290, 291, 292, 146, 147, 156, 157, 158, 159, 160, 161, 293, 294, 295, 296, 145, 297, 298, 299, 300, 301, 302, 303, 304, 305, 306, 45, 180, 181, 182, 183, 43, 44, 184, 185, 186, 307, 308, 309, 310, 49, 166, 167, 168, 169, 47, 48, 170, 171, 172, 173, 143, 174, 50, 51, 175, 176, 177, 178, 179, 46, 564, 565, 566, 567, 568, 569, 570, 571, 572, 573, 574, 575, 576, 577, 578, 579, 580, 581, 582, 583, 584, 585, 586, 587] rfl (by decide +kernel)
set_option maxRecDepth 20000 in
theorem gL_law_X3_write : GoodIn wsL_law (wsV RL 83 RX3 yX3_write wsX3_write) := goodIn_app (goodIn_of _ (by decide +kernel)) ggL_law_X3_write
set_option maxRecDepth 20000 in
theorem ggL_law_L_read : GoodIn wsL_law wsL_read := goodIn_ca (goodIn_ca (goodIn_r _ [313, 198, 199, 314, 315, 316, 2, 317, 205, 206, 207, 208, 209, 210, 65, 66, 211, 212, 213, 214, 215, 216, 132, 133, 134, 135, 18, 318, 319, 320, 321, 217, 218, 219, 220, 221, 222, 223, 224, 322, 323, 324, 325, 14, 112, 113, 114, 115, 22, 23, 259, 260, 261, 25, 262, 32, 233, 234, 235, 236, 245, 246, 247, 248, 249, 250, 251, 252, 253, 254, 255, 256, 257, 258, 554, 555, 556, 557, 558, 559, 560, 561, 562, 563, 588, 589, 590, 591, 592, 593, 594, 595, 596, 597, 598, 599] rfl (by decide +kernel)) (goodIn_sub (fun _ h => List.mem_append_left _ (List.mem_append_left _ (List.mem_append_right _ h))) (by decide +kernel))) (goodIn_sub (fun _ h => List.mem_append_left _ (List.mem_append_right _ h)) (by decide +kernel))
set_option maxRecDepth 20000 in
theorem gL_law_L_read : GoodIn wsL_law (va_wsS RL 84 yL_read wsL_read) := goodIn_app (goodIn_of _ (by decide +kernel)) ggL_law_L_read
set_option maxRecDepth 20000 in
theorem ggL_law_X3_read : GoodIn wsL_law wsX3_read := goodIn_r _ [329, 281, 282, 283, 5, 284, 141, 142, 140, 285, 286, 287, 288, 187, 188, 189, 190, 144, 149, 150, 151, 330, 331, 332, 333, 147, 45, 289, 290, 291, 292, 146, 180, 181, 182, 183, 43, 44, 184, 185, 186, 293, 294, 295, 296, 145, 297, 298, 299, 300, 301, 302, 303, 304, 305, 306, 152, 153, 154, 155, 564, 565, 566, 567, 568, 569, 570, 571, 572, 573, 574, 575, 576, 577, 578, 579, 580, 581, 582, 583, 584, 585, 586, 587] rfl (by decide +kernel)
set_option maxRecDepth 20000 in
theorem gL_law_X3_read : GoodIn wsL_law (wsV RL 87 RX3 yX3_read wsX3_read) := goodIn_app (goodIn_of _ (by decide +kernel)) ggL_law_X3_read
set_option maxRecDepth 20000 in
theorem ggL_law_L_widen : GoodIn wsL_law wsL_widen := goodIn_ca (goodIn_ca (goodIn_ca (goodIn_r _ [336, 198, 58, 200, 337, 338, 339, 2, 340, 63, 64, 18, 14, 205, 206, 207, 208, 209, 210, 65, 66, 112, 113, 114, 115, 22, 23, 225, 226, 227, 228, 67, 229, 230, 231, 232, 68, 69, 70, 25, 71, 32, 34, 35, 72, 73, 74, 75, 76, 77, 78, 79, 17, 80, 81, 82, 83, 84, 85, 87, 88, 89, 90, 91, 92, 93, 94, 95, 96, 97, 98, 36, 38, 99, 100, 101, 102, 103, 104, 105, 106, 107, 108, 109, 110, 111, 116, 117, 118, 119, 37, 120, 121, 122, 123, 124, 125, 126, 127, 128, 129, 130, 131, 271, 272, 273, 274, 275, 276, 554, 555, 556, 557, 558, 559, 560, 561, 562, 563, 588, 589, 590, 591, 592, 593, 594, 595, 596, 597, 598, 599] rfl (by decide +kernel)) (goodIn_sub (fun _ h => List.mem_append_left _ (List.mem_append_left _ (List.mem_append_left _ (List.mem_append_right _ h)))) (by decide +kernel))) (goodIn_sub (fun _ h => List.mem_append_left _ (List.mem_append_left _ (List.mem_append_right _ h))) (by decide +kernel))) (goodIn_sub (fun _ h => List.mem_append_right _ h) (by decide +kernel))
set_option maxRecDepth 20000 in
theorem gL_law_L_widen : GoodIn wsL_law (va_wsS RL 88 yL_widen wsL_widen) := goodIn_app (goodIn_of _ (by decide +kernel)) ggL_law_L_widen
set_option maxRecDepth 20000 in
theorem ggL_law_X3_widen : GoodIn wsL_law wsX3_widen := goodIn_r _ [344, 145, 144, 45, 46, 148, 147, 281, 282, 283, 5, 284, 141, 142, 140, 345, 346, 347, 348, 43, 44, 152, 153, 154, 155, 156, 157, 158, 159, 160, 161, 162, 163, 164, 165, 49, 166, 167, 168, 169, 47, 48, 170, 171, 172, 173, 143, 174, 50, 51, 175, 176, 177, 178, 179, 180, 181, 182, 183, 184, 185, 186, 564, 565, 566, 567, 568, 569, 570, 571, 572, 573, 574, 575, 576, 577, 578, 579, 580, 581, 582, 583, 584, 585, 586, 587] rfl (by decide +kernel)
set_option maxRecDepth 20000 in
theorem gL_law_X3_widen : GoodIn wsL_law (wsV RL 91 RX3 yX3_widen wsX3_widen) := goodIn_app (goodIn_of _ (by decide +kernel)) ggL_law_X3_widen
set_option maxRecDepth 20000 in
theorem ggL_law_L_step : GoodIn wsL_law wsL_step := goodIn_ca (goodIn_ca (goodIn_ca (goodIn_r _ [351, 198, 58, 200, 352, 353, 354, 2, 355, 63, 64, 18, 205, 206, 207, 208, 209, 210, 65, 66, 225, 226, 227, 228, 67, 229, 230, 231, 232, 356, 357, 358, 359, 20, 221, 222, 223, 224, 132, 133, 134, 135, 318, 319, 320, 321, 217, 218, 219, 220, 322, 323, 324, 325, 14, 112, 113, 114, 115, 22, 23, 259, 260, 261, 25, 262, 32, 233, 234, 235, 236, 245, 246, 247, 248, 249, 250, 251, 252, 253, 254, 255, 256, 257, 258, 360, 361, 362, 363, 263, 264, 265, 266, 72, 36, 37, 120, 121, 122, 123, 103, 104, 105, 106, 107, 108, 109, 110, 111, 116, 117, 118, 119, 38, 124, 125, 126, 127, 128, 129, 130, 131, 35, 34, 99, 100, 101, 17, 102, 81, 82, 83, 84, 85, 87, 88, 89, 90, 91, 92, 93, 94, 95, 96, 97, 98, 364, 365, 366, 367, 267, 268, 269, 270, 21, 368, 369, 370, 371, 271, 272, 273, 274, 275, 276, 554, 555, 556, 557, 558, 559, 560, 561, 562, 563, 588, 589, 590, 591, 592, 593, 594, 595, 596, 597, 598, 599] rfl (by decide +kernel)) (goodIn_sub (fun _ h => List.mem_append_left _ (List.mem_append_left _ (List.mem_append_left _ (List.mem_append_right _ h)))) (by decide +kernel))) (goodIn_sub (fun _ h => List.mem_append_left _ (List.mem_append_left _ (List.mem_append_right _ h))) (by decide +kernel))) (goodIn_sub (fun _ h => List.mem_append_right _ h) (by decide +kernel))
set_option maxRecDepth 20000 in
theorem gL_law_L_step : GoodIn wsL_law (va_wsS RL 92 yL_step wsL_step) := goodIn_app (goodIn_of _ (by decide +kernel)) ggL_law_L_step
set_option maxRecDepth 20000 in
theorem ggL_law_X3_step : GoodIn wsL_law wsX3_step := goodIn_r _ [375, 145, 146, 147, 281, 282, 283, 5, 284, 141, 142, 140, 152, 153, 154, 155, 156, 157, 158, 159, 160, 161, 376, 377, 378, 379, 144, 52, 148, 330, 331, 332, 333, 45, 187, 188, 189, 190, 289, 290, 291, 292, 149, 150, 151, 180, 181, 182, 183, 43, 44, 184, 185, 186, 293, 294, 295, 296, 297, 298, 299, 300, 301, 302, 303, 304, 305, 306, 307, 308, 309, 310, 49, 166, 167, 168, 169, 47, 48, 170, 171, 172, 173, 143, 174, 50, 51, 175, 176, 177, 178, 179, 46, 162, 163, 164, 165, 380, 381, 382, 383, 53, 564, 565, 566, 567, 568, 569, 570, 571, 572, 573, 574, 575, 576, 577, 578, 579, 580, 581, 582, 583, 584, 585, 586, 587] rfl (by decide +kernel)
set_option maxRecDepth 20000 in
theorem gL_law_X3_step : GoodIn wsL_law (wsV RL 94 RX3 yX3_step wsX3_step) := goodIn_app (goodIn_of _ (by decide +kernel)) ggL_law_X3_step
set_option maxRecDepth 20000 in
theorem ggL_law_L_lose : GoodIn wsL_law wsL_lose := goodIn_ca (goodIn_ca (goodIn_ca (goodIn_r _ [386, 198, 199, 58, 387, 388, 389, 2, 390, 63, 64, 67, 22, 14, 205, 206, 207, 208, 209, 210, 65, 66, 391, 392, 393, 394, 215, 216, 91, 92, 93, 94, 18, 112, 113, 114, 115, 23, 68, 69, 70, 25, 71, 32, 34, 35, 72, 73, 74, 75, 76, 77, 78, 79, 17, 80, 81, 82, 83, 84, 85, 554, 555, 556, 557, 558, 559, 560, 561, 562, 563, 588, 589, 590, 591, 592, 593, 594, 595, 596, 597, 598, 599] rfl (by decide +kernel)) (goodIn_sub (fun _ h => List.mem_append_left _ (List.mem_append_left _ (List.mem_append_left _ (List.mem_append_right _ h)))) (by decide +kernel))) (goodIn_sub (fun _ h => List.mem_append_left _ (List.mem_append_left _ (List.mem_append_right _ h))) (by decide +kernel))) (goodIn_sub (fun _ h => List.mem_append_left _ (List.mem_append_right _ h)) (by decide +kernel))
set_option maxRecDepth 20000 in
theorem gL_law_L_lose : GoodIn wsL_law (va_wsS RL 95 yL_lose wsL_lose) := goodIn_app (goodIn_of _ (by decide +kernel)) ggL_law_L_lose
set_option maxRecDepth 20000 in
theorem ggL_law_X3_lose : GoodIn wsL_law wsX3_lose := goodIn_r _ [398, 140, 143, 43, 281, 282, 283, 5, 284, 141, 142, 399, 400, 401, 402, 145, 144, 149, 150, 151, 345, 346, 347, 348, 44, 403, 404, 405, 406, 45, 46, 564, 565, 566, 567, 568, 569, 570, 571, 572, 573, 574, 575, 576, 577, 578, 579, 580, 581, 582, 583, 584, 585, 586, 587] rfl (by decide +kernel)
set_option maxRecDepth 20000 in
theorem gL_law_X3_lose : GoodIn wsL_law (wsV RL 98 RX3 yX3_lose wsX3_lose) := goodIn_app (goodIn_of _ (by decide +kernel)) ggL_law_X3_lose
set_option maxRecDepth 20000 in
theorem ggL_law_L_replace : GoodIn wsL_law wsL_replace := goodIn_ca (goodIn_ca (goodIn_r _ [409, 198, 58, 410, 411, 412, 2, 413, 63, 64, 22, 23, 205, 206, 207, 208, 209, 210, 65, 66, 554, 555, 556, 557, 558, 559, 560, 561, 562, 563] rfl (by decide +kernel)) (goodIn_sub (fun _ h => List.mem_append_left _ (List.mem_append_left _ (List.mem_append_left _ (List.mem_append_right _ h)))) (by decide +kernel))) (goodIn_sub (fun _ h => List.mem_append_left _ (List.mem_append_left _ (List.mem_append_right _ h))) (by decide +kernel))
set_option maxRecDepth 20000 in
theorem gL_law_L_replace : GoodIn wsL_law (va_wsS RL 99 yL_replace wsL_replace) := goodIn_app (goodIn_of _ (by decide +kernel)) ggL_law_L_replace
set_option maxRecDepth 20000 in
theorem ggL_law_X3_replace : GoodIn wsL_law wsX3_replace := goodIn_r _ [417, 43, 44, 281, 282, 283, 5, 284, 141, 142, 140, 152, 153, 154, 155, 564, 565, 566, 567, 568, 569, 570, 571, 572, 573, 574, 575, 576, 577, 578, 579, 580, 581, 582, 583, 584, 585, 586, 587] rfl (by decide +kernel)
set_option maxRecDepth 20000 in
theorem gL_law_X3_replace : GoodIn wsL_law (wsV RL 101 RX3 yX3_replace wsX3_replace) := goodIn_app (goodIn_of _ (by decide +kernel)) ggL_law_X3_replace
set_option maxRecDepth 20000 in
theorem ggL_law_L_rebuild : GoodIn wsL_law wsL_rebuild := goodIn_ca (goodIn_ca (goodIn_r _ [420, 198, 58, 421, 422, 423, 2, 424, 63, 64, 23, 14, 18, 205, 206, 207, 208, 209, 210, 65, 66, 425, 426, 427, 428, 429, 430, 431, 432, 433, 434, 435, 436, 437, 438, 439, 440, 255, 256, 257, 258, 259, 260, 261, 25, 262, 32, 441, 442, 443, 444, 445, 446, 447, 448, 322, 323, 324, 325, 112, 113, 114, 115, 22, 449, 125, 126, 127, 128, 129, 130, 131, 35, 34, 99, 100, 101, 17, 102, 81, 82, 83, 84, 85, 554, 555, 556, 557, 558, 559, 560, 561, 562, 563, 588, 589, 590, 591, 592, 593, 594, 595, 596, 597, 598, 599] rfl (by decide +kernel)) (goodIn_sub (fun _ h => List.mem_append_left _ (List.mem_append_left _ (List.mem_append_left _ (List.mem_append_right _ h)))) (by decide +kernel))) (goodIn_sub (fun _ h => List.mem_append_left _ (List.mem_append_left _ (List.mem_append_right _ h))) (by decide +kernel))
set_option maxRecDepth 20000 in
theorem gL_law_L_rebuild : GoodIn wsL_law (va_wsS RL 102 yL_rebuild wsL_rebuild) := goodIn_app (goodIn_of _ (by decide +kernel)) ggL_law_L_rebuild
set_option maxRecDepth 20000 in
theorem ggL_law_X3_rebuild : GoodIn wsL_law wsX3_rebuild := goodIn_r _ [453, 44, 146, 147, 52, 45, 144, 148, 46, 145, 281, 282, 283, 5, 284, 141, 142, 140, 152, 153, 154, 155, 156, 157, 158, 159, 160, 161, 454, 455, 456, 457, 303, 304, 305, 306, 180, 181, 182, 183, 43, 184, 185, 186, 564, 565, 566, 567, 568, 569, 570, 571, 572, 573, 574, 575, 576, 577, 578, 579, 580, 581, 582, 583, 584, 585, 586, 587] rfl (by decide +kernel)
set_option maxRecDepth 20000 in
theorem gL_law_X3_rebuild : GoodIn wsL_law (wsV RL 104 RX3 yX3_rebuild wsX3_rebuild) := goodIn_app (goodIn_of _ (by decide +kernel)) ggL_law_X3_rebuild
set_option maxRecDepth 20000 in
theorem ggL_law_L_crash : GoodIn wsL_law wsL_crash := goodIn_ca (goodIn_ca (goodIn_r _ [460, 198, 58, 461, 462, 463, 2, 464, 63, 64, 67, 111, 205, 206, 207, 208, 209, 210, 65, 66, 112, 113, 114, 115, 22, 23, 554, 555, 556, 557, 558, 559, 560, 561, 562, 563] rfl (by decide +kernel)) (goodIn_sub (fun _ h => List.mem_append_left _ (List.mem_append_left _ (List.mem_append_left _ (List.mem_append_right _ h)))) (by decide +kernel))) (goodIn_sub (fun _ h => List.mem_append_left _ (List.mem_append_left _ (List.mem_append_right _ h))) (by decide +kernel))
set_option maxRecDepth 20000 in
theorem gL_law_L_crash : GoodIn wsL_law (va_wsS RL 105 yL_crash wsL_crash) := goodIn_app (goodIn_of _ (by decide +kernel)) ggL_law_L_crash
set_option maxRecDepth 20000 in
theorem ggL_law_X3_crash : GoodIn wsL_law wsX3_crash := goodIn_r _ [468, 140, 143, 174, 175, 281, 282, 283, 5, 284, 141, 142, 345, 346, 347, 348, 43, 44, 564, 565, 566, 567, 568, 569, 570, 571, 572, 573, 574, 575, 576, 577, 578, 579, 580, 581, 582, 583, 584, 585, 586, 587] rfl (by decide +kernel)
set_option maxRecDepth 20000 in
theorem gL_law_X3_crash : GoodIn wsL_law (wsV RL 108 RX3 yX3_crash wsX3_crash) := goodIn_app (goodIn_of _ (by decide +kernel)) ggL_law_X3_crash
set_option maxRecDepth 20000 in
theorem ggL_law_L_start : GoodIn wsL_law wsL_start := goodIn_ca (goodIn_r _ [471, 198, 472, 473, 474, 2, 475, 209, 210, 66, 18, 476, 477, 478, 479, 14, 480, 129, 130, 25, 131, 35, 34, 481, 100, 101, 17, 102, 81, 82, 83, 84, 85, 482, 483, 484, 485, 429, 430, 431, 432, 433, 434, 435, 436, 248, 249, 250, 437, 438, 439, 440, 255, 256, 257, 258, 259, 260, 261, 262, 32, 441, 442, 443, 444, 554, 555, 556, 557, 558, 559, 560, 561, 562, 563, 588, 589, 590, 591, 592, 593, 594, 595, 596, 597, 598, 599] rfl (by decide +kernel)) (goodIn_sub (fun _ h => List.mem_append_left _ (List.mem_append_left _ (List.mem_append_right _ h))) (by decide +kernel))
set_option maxRecDepth 20000 in
theorem gL_law_L_start : GoodIn wsL_law (va_wsS RL 109 yL_start wsL_start) := goodIn_app (goodIn_of _ (by decide +kernel)) ggL_law_L_start
set_option maxRecDepth 20000 in
theorem ggL_law_X3_start : GoodIn wsL_law wsX3_start := goodIn_r _ [489, 140, 141, 142, 46, 148, 144, 145, 147, 146, 152, 153, 154, 5, 155, 454, 455, 456, 457, 490, 491, 492, 493, 45, 300, 301, 302, 184, 185, 186, 564, 565, 566, 567, 568, 569, 570, 571, 572, 573, 574, 575, 576, 577, 578, 579, 580, 581, 582, 583, 584, 585, 586, 587] rfl (by decide +kernel)
set_option maxRecDepth 20000 in
theorem gL_law_X3_start : GoodIn wsL_law (wsV RL 111 RX3 yX3_start wsX3_start) := goodIn_app (goodIn_of _ (by decide +kernel)) ggL_law_X3_start
set_option maxRecDepth 20000 in
theorem ggL_law_L_good : GoodIn wsL_law wsL_good := goodIn_ca (goodIn_ca (goodIn_ca (goodIn_r _ [496, 198, 199, 58, 497, 498, 499, 2, 500, 215, 216, 63, 64, 205, 206, 207, 208, 209, 210, 65, 66, 112, 113, 114, 115, 22, 23, 433, 434, 435, 436, 18, 501, 502, 503, 504, 14, 429, 430, 431, 432, 248, 249, 250, 259, 260, 261, 25, 262, 32, 255, 256, 257, 258, 554, 555, 556, 557, 558, 559, 560, 561, 562, 563, 588, 589, 590, 591, 592, 593, 594, 595, 596, 597, 598, 599] rfl (by decide +kernel)) (goodIn_sub (fun _ h => List.mem_append_left _ (List.mem_append_right _ h)) (by decide +kernel))) (goodIn_sub (fun _ h => List.mem_append_left _ (List.mem_append_left _ (List.mem_append_left _ (List.mem_append_right _ h)))) (by decide +kernel))) (goodIn_sub (fun _ h => List.mem_append_left _ (List.mem_append_left _ (List.mem_append_right _ h))) (by decide +kernel))
set_option maxRecDepth 20000 in
theorem gL_law_L_good : GoodIn wsL_law (va_wsS RL 112 yL_good wsL_good) := goodIn_app (goodIn_of _ (by decide +kernel)) ggL_law_L_good
set_option maxRecDepth 20000 in
theorem ggL_law_X3_good : GoodIn wsL_law wsX3_good := goodIn_r _ [508, 146, 147, 281, 282, 283, 5, 284, 141, 142, 140, 149, 150, 151, 152, 153, 154, 155, 345, 346, 347, 348, 43, 44, 454, 455, 456, 457, 145, 144, 509, 510, 511, 512, 45, 184, 185, 186, 564, 565, 566, 567, 568, 569, 570, 571, 572, 573, 574, 575, 576, 577, 578, 579, 580, 581, 582, 583, 584, 585, 586, 587] rfl (by decide +kernel)
set_option maxRecDepth 20000 in
theorem gL_law_X3_good : GoodIn wsL_law (wsV RL 114 RX3 yX3_good wsX3_good) := goodIn_app (goodIn_of _ (by decide +kernel)) ggL_law_X3_good
set_option maxRecDepth 20000 in
theorem ggL_law_L_layout : GoodIn wsL_law wsL_layout := goodIn_ca (goodIn_ca (goodIn_r _ [515, 198, 199, 516, 517, 518, 2, 519, 205, 206, 207, 208, 209, 210, 65, 66, 211, 212, 213, 214, 215, 216, 132, 133, 134, 135, 18, 217, 218, 219, 220, 221, 222, 223, 224, 554, 555, 556, 557, 558, 559, 560, 561, 562, 563, 588, 589, 590, 591, 592] rfl (by decide +kernel)) (goodIn_sub (fun _ h => List.mem_append_left _ (List.mem_append_left _ (List.mem_append_right _ h))) (by decide +kernel))) (goodIn_sub (fun _ h => List.mem_append_left _ (List.mem_append_right _ h)) (by decide +kernel))
set_option maxRecDepth 20000 in
theorem gL_law_L_layout : GoodIn wsL_law (va_wsS RL 115 yL_layout wsL_layout) := goodIn_app (goodIn_of _ (by decide +kernel)) ggL_law_L_layout
set_option maxRecDepth 20000 in
theorem ggL_law_X3_layout : GoodIn wsL_law wsX3_layout := goodIn_r _ [523, 281, 282, 283, 5, 284, 141, 142, 140, 187, 188, 189, 190, 144, 149, 150, 151, 152, 153, 154, 155, 289, 290, 291, 292, 146, 147, 293, 294, 295, 296, 145, 564, 565, 566, 567, 568, 569, 570, 571, 572, 573, 574, 575, 576, 577, 578, 579, 580, 581, 582, 583, 584, 585, 586, 587] rfl (by decide +kernel)
