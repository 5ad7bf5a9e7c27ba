theorem dX1_take_9 : decode cX1_take 9 = .ok (.aload_n 1, 1) := by decide +kernel
theorem dX1_take_10 : decode cX1_take 10 = .ok (.getfield 13, 3) := by decide +kernel
theorem dX1_take_13 : decode cX1_take 13 = .ok (.putfield 13, 3) := by decide +kernel
theorem dX1_take_16 : decode cX1_take 16 = .ok (.aload_n 0, 1) := by decide +kernel
theorem dX1_take_17 : decode cX1_take 17 = .ok (.aload_n 1, 1) := by decide +kernel
theorem dX1_take_18 : decode cX1_take 18 = .ok (.getfield 16, 3) := by decide +kernel
theorem dX1_take_21 : decode cX1_take 21 = .ok (.putfield 16, 3) := by decide +kernel
theorem dX1_take_24 : decode cX1_take 24 = .ok (.aload_n 0, 1) := by decide +kernel
theorem dX1_take_25 : decode cX1_take 25 = .ok (.aload_n 1, 1) := by decide +kernel
theorem dX1_take_26 : decode cX1_take 26 = .ok (.getfield 20, 3) := by decide +kernel
theorem dX1_take_29 : decode cX1_take 29 = .ok (.putfield 20, 3) := by decide +kernel
theorem dX1_take_32 : decode cX1_take 32 = .ok (.aload_n 0, 1) := by decide +kernel
theorem dX1_take_33 : decode cX1_take 33 = .ok (.aload_n 1, 1) := by decide +kernel
theorem dX1_take_34 : decode cX1_take 34 = .ok (.getfield 23, 3) := by decide +kernel
theorem dX1_take_37 : decode cX1_take 37 = .ok (.putfield 23, 3) := by decide +kernel
theorem dX1_take_40 : decode cX1_take 40 = .ok (.return_, 1) := by decide +kernel
set_option maxRecDepth 20000 in
theorem ggX2_init_X1_init : GoodIn wsX2_init wsX1_init := goodIn_r _ [18, 19, 2, 3] (by decide +kernel) (by decide +kernel)
set_option maxRecDepth 20000 in
theorem gX2_init_X1_init_n17 : GoodIn wsX2_init (wsX1_init) := ggX2_init_X1_init
set_option maxRecDepth 20000 in
theorem ggX2_init_X0_init : GoodIn wsX2_init wsX0_init := goodIn_r _ [21, 22, 2, 3, 10, 23, 24, 7, 8, 25, 26, 27, 28, 29, 17, 18, 19, 45, 46, 47, 48, 49, 50, 51, 40, 41, 42, 43, 44] (by decide +kernel) (by decide +kernel)
set_option maxRecDepth 20000 in
theorem gX2_init_X0_init_n36 : GoodIn wsX2_init (wsX0_init) := ggX2_init_X0_init
theorem dX2_init_0 : decode cX2_init 0 = .ok (.aload_n 0, 1) := by decide +kernel
theorem dX2_init_1 : decode cX2_init 1 = .ok (.invokespecial 1, 3) := by decide +kernel
theorem dX2_init_4 : decode cX2_init 4 = .ok (.aload_n 0, 1) := by decide +kernel
theorem dX2_init_5 : decode cX2_init 5 = .ok (.bipush 6, 2) := by decide +kernel
theorem dX2_init_7 : decode cX2_init 7 = .ok (.anewarray 9, 3) := by decide +kernel
theorem dX2_init_10 : decode cX2_init 10 = .ok (.putfield 11, 3) := by decide +kernel
theorem dX2_init_13 : decode cX2_init 13 = .ok (.aload_n 0, 1) := by decide +kernel
theorem dX2_init_14 : decode cX2_init 14 = .ok (.new 15, 3) := by decide +kernel
theorem dX2_init_17 : decode cX2_init 17 = .ok (.dup, 1) := by decide +kernel
theorem dX2_init_18 : decode cX2_init 18 = .ok (.invokespecial 17, 3) := by decide +kernel
theorem dX2_init_21 : decode cX2_init 21 = .ok (.putfield 18, 3) := by decide +kernel
theorem dX2_init_24 : decode cX2_init 24 = .ok (.aload_n 0, 1) := by decide +kernel
theorem dX2_init_25 : decode cX2_init 25 = .ok (.bipush 24, 2) := by decide +kernel
theorem dX2_init_27 : decode cX2_init 27 = .ok (.newarray .int, 2) := by decide +kernel
theorem dX2_init_29 : decode cX2_init 29 = .ok (.putfield 22, 3) := by decide +kernel
theorem dX2_init_32 : decode cX2_init 32 = .ok (.aload_n 0, 1) := by decide +kernel
theorem dX2_init_33 : decode cX2_init 33 = .ok (.iconst 4, 1) := by decide +kernel
theorem dX2_init_34 : decode cX2_init 34 = .ok (.newarray .int, 2) := by decide +kernel
theorem dX2_init_36 : decode cX2_init 36 = .ok (.putfield 26, 3) := by decide +kernel
theorem dX2_init_39 : decode cX2_init 39 = .ok (.aload_n 0, 1) := by decide +kernel
theorem dX2_init_40 : decode cX2_init 40 = .ok (.iconst (-1), 1) := by decide +kernel
theorem dX2_init_41 : decode cX2_init 41 = .ok (.putfield 29, 3) := by decide +kernel
theorem dX2_init_44 : decode cX2_init 44 = .ok (.aload_n 0, 1) := by decide +kernel
theorem dX2_init_45 : decode cX2_init 45 = .ok (.iconst (-1), 1) := by decide +kernel
theorem dX2_init_46 : decode cX2_init 46 = .ok (.putfield 33, 3) := by decide +kernel
theorem dX2_init_49 : decode cX2_init 49 = .ok (.iconst 0, 1) := by decide +kernel
theorem dX2_init_50 : decode cX2_init 50 = .ok (.istore_n 1, 1) := by decide +kernel
theorem dX2_init_51 : decode cX2_init 51 = .ok (.iload_n 1, 1) := by decide +kernel
theorem dX2_init_52 : decode cX2_init 52 = .ok (.bipush 6, 2) := by decide +kernel
theorem dX2_init_54 : decode cX2_init 54 = .ok (.if_icmp .ge 22, 3) := by decide +kernel
theorem dX2_init_57 : decode cX2_init 57 = .ok (.aload_n 0, 1) := by decide +kernel
theorem dX2_init_58 : decode cX2_init 58 = .ok (.getfield 11, 3) := by decide +kernel
theorem dX2_init_61 : decode cX2_init 61 = .ok (.iload_n 1, 1) := by decide +kernel
theorem dX2_init_62 : decode cX2_init 62 = .ok (.new 9, 3) := by decide +kernel
theorem dX2_init_65 : decode cX2_init 65 = .ok (.dup, 1) := by decide +kernel
theorem dX2_init_66 : decode cX2_init 66 = .ok (.invokespecial 36, 3) := by decide +kernel
theorem dX2_init_69 : decode cX2_init 69 = .ok (.aastore, 1) := by decide +kernel
theorem dX2_init_70 : decode cX2_init 70 = .ok (.iinc 1 1, 3) := by decide +kernel
theorem dX2_init_73 : decode cX2_init 73 = .ok (.goto (-22), 3) := by decide +kernel
theorem dX2_init_76 : decode cX2_init 76 = .ok (.return_, 1) := by decide +kernel
set_option maxRecDepth 20000 in
theorem ggX2_format_X0_empty : GoodIn wsX2_format wsX0_empty := goodIn_r _ [14, 15, 16, 17, 18, 19, 20, 21, 22, 23, 24, 25, 26, 27, 28, 29, 30, 31, 32, 102, 103, 104, 105, 106, 107, 108, 97, 98, 99, 100, 101] (by decide +kernel) (by decide +kernel)
set_option maxRecDepth 20000 in
theorem gX2_format_X0_empty : GoodIn wsX2_format (wsV RX2 44 RX0 yX0_empty wsX0_empty) := goodIn_app (goodIn_of _ (by decide +kernel)) ggX2_format_X0_empty
set_option maxRecDepth 20000 in
theorem ggX2_format_X1_empty : GoodIn wsX2_format wsX1_empty := goodIn_r _ [27, 28, 29, 30, 31, 32, 97, 98, 99, 100, 101] (by decide +kernel) (by decide +kernel)
set_option maxRecDepth 20000 in
theorem gX2_format_X1_empty : GoodIn wsX2_format (wsV RX2 57 RX1 yX1_empty wsX1_empty) := goodIn_app (goodIn_of _ (by decide +kernel)) ggX2_format_X1_empty
set_option maxRecDepth 20000 in
theorem ggX2_format_X2_issueNewMarks : GoodIn wsX2_format wsX2_issueNewMarks := goodIn_r _ [38, 9, 3, 39, 40, 41, 37, 42, 43, 44, 45, 13, 46, 18, 47, 48, 49, 50, 51, 26, 52, 28, 29, 30, 31, 32, 87, 88, 89, 90, 91, 92, 93, 94, 95, 96, 97, 98, 99, 100, 101, 102, 103, 104, 105, 106, 107, 108] (by decide +kernel) (by decide +kernel)
set_option maxRecDepth 20000 in
theorem gX2_format_X2_issueNewMarks : GoodIn wsX2_format (wsV RX2 61 RX2 yX2_issueNewMarks wsX2_issueNewMarks) := goodIn_app (goodIn_of _ (by decide +kernel)) ggX2_format_X2_issueNewMarks
set_option maxRecDepth 20000 in
theorem ggX2_format_X2_awaitWrites : GoodIn wsX2_format wsX2_awaitWrites := goodIn_r _ [56, 8, 3, 5, 57, 58, 59, 37, 60, 61, 62, 63, 64, 65, 6, 7, 66, 67, 68, 13, 69, 18, 47, 48, 70, 15, 71, 72, 73, 74, 75, 76, 77, 78, 79, 80, 81, 82, 17, 16, 49, 50, 51, 26, 52, 28, 29, 30, 31, 32, 87, 88, 89, 90, 91, 92, 93, 94, 95, 96, 102, 103, 104, 105, 106, 107, 108, 97, 98, 99, 100, 101] (by decide +kernel) (by decide +kernel)
set_option maxRecDepth 20000 in
theorem gX2_format_X2_awaitWrites : GoodIn wsX2_format (wsV RX2 64 RX2 yX2_awaitWrites wsX2_awaitWrites) := goodIn_app (goodIn_of _ (by decide +kernel)) ggX2_format_X2_awaitWrites
set_option maxRecDepth 20000 in
theorem ggX2_format_X2_capacity : GoodIn wsX2_format wsX2_capacity := goodIn_r _ [86, 9, 87, 88, 89, 90, 91, 92, 93, 94, 95, 96, 97, 98, 99, 100, 101] (by decide +kernel) (by decide +kernel)
set_option maxRecDepth 20000 in
theorem gX2_format_X2_capacity : GoodIn wsX2_format (wsV RX2 68 RX2 yX2_capacity wsX2_capacity) := goodIn_app (goodIn_of _ (by decide +kernel)) ggX2_format_X2_capacity
theorem dX2_format_0 : decode cX2_format 0 = .ok (.iload_n 1, 1) := by decide +kernel
theorem dX2_format_1 : decode cX2_format 1 = .ok (.iconst 3, 1) := by decide +kernel
theorem dX2_format_2 : decode cX2_format 2 = .ok (.if_icmp .lt 9, 3) := by decide +kernel
theorem dX2_format_5 : decode cX2_format 5 = .ok (.iload_n 1, 1) := by decide +kernel
theorem dX2_format_6 : decode cX2_format 6 = .ok (.bipush 6, 2) := by decide +kernel
theorem dX2_format_8 : decode cX2_format 8 = .ok (.if_icmp .le 13, 3) := by decide +kernel
theorem dX2_format_11 : decode cX2_format 11 = .ok (.new 37, 3) := by decide +kernel
theorem dX2_format_14 : decode cX2_format 14 = .ok (.dup, 1) := by decide +kernel
theorem dX2_format_15 : decode cX2_format 15 = .ok (.ldc 39, 2) := by decide +kernel
theorem dX2_format_17 : decode cX2_format 17 = .ok (.invokespecial 41, 3) := by decide +kernel
theorem dX2_format_20 : decode cX2_format 20 = .ok (.athrow, 1) := by decide +kernel
theorem dX2_format_21 : decode cX2_format 21 = .ok (.iconst 0, 1) := by decide +kernel
theorem dX2_format_22 : decode cX2_format 22 = .ok (.istore_n 2, 1) := by decide +kernel
theorem dX2_format_23 : decode cX2_format 23 = .ok (.iload_n 2, 1) := by decide +kernel
theorem dX2_format_24 : decode cX2_format 24 = .ok (.bipush 6, 2) := by decide +kernel
theorem dX2_format_26 : decode cX2_format 26 = .ok (.if_icmp .ge 18, 3) := by decide +kernel
theorem dX2_format_29 : decode cX2_format 29 = .ok (.aload_n 0, 1) := by decide +kernel
theorem dX2_format_30 : decode cX2_format 30 = .ok (.getfield 11, 3) := by decide +kernel
theorem dX2_format_33 : decode cX2_format 33 = .ok (.iload_n 2, 1) := by decide +kernel
theorem dX2_format_34 : decode cX2_format 34 = .ok (.aaload, 1) := by decide +kernel
theorem dX2_format_35 : decode cX2_format 35 = .ok (.invokevirtual 44, 3) := by decide +kernel
theorem dX2_format_38 : decode cX2_format 38 = .ok (.iinc 2 1, 3) := by decide +kernel
theorem dX2_format_41 : decode cX2_format 41 = .ok (.goto (-18), 3) := by decide +kernel
theorem dX2_format_44 : decode cX2_format 44 = .ok (.aload_n 0, 1) := by decide +kernel
theorem dX2_format_45 : decode cX2_format 45 = .ok (.iconst 1, 1) := by decide +kernel
theorem dX2_format_46 : decode cX2_format 46 = .ok (.putfield 47, 3) := by decide +kernel
theorem dX2_format_49 : decode cX2_format 49 = .ok (.aload_n 0, 1) := by decide +kernel
theorem dX2_format_50 : decode cX2_format 50 = .ok (.iconst 0, 1) := by decide +kernel
theorem dX2_format_51 : decode cX2_format 51 = .ok (.putfield 51, 3) := by decide +kernel
theorem dX2_format_54 : decode cX2_format 54 = .ok (.aload_n 0, 1) := by decide +kernel
theorem dX2_format_55 : decode cX2_format 55 = .ok (.iconst (-1), 1) := by decide +kernel
theorem dX2_format_56 : decode cX2_format 56 = .ok (.putfield 29, 3) := by decide +kernel
theorem dX2_format_59 : decode cX2_format 59 = .ok (.aload_n 0, 1) := by decide +kernel
theorem dX2_format_60 : decode cX2_format 60 = .ok (.iconst (-1), 1) := by decide +kernel
theorem dX2_format_61 : decode cX2_format 61 = .ok (.putfield 33, 3) := by decide +kernel
theorem dX2_format_64 : decode cX2_format 64 = .ok (.aload_n 0, 1) := by decide +kernel
theorem dX2_format_65 : decode cX2_format 65 = .ok (.iconst 0, 1) := by decide +kernel
theorem dX2_format_66 : decode cX2_format 66 = .ok (.putfield 54, 3) := by decide +kernel
theorem dX2_format_69 : decode cX2_format 69 = .ok (.aload_n 0, 1) := by decide +kernel
theorem dX2_format_70 : decode cX2_format 70 = .ok (.getfield 18, 3) := by decide +kernel
theorem dX2_format_73 : decode cX2_format 73 = .ok (.invokevirtual 57, 3) := by decide +kernel
theorem dX2_format_76 : decode cX2_format 76 = .ok (.aload_n 0, 1) := by decide +kernel
theorem dX2_format_77 : decode cX2_format 77 = .ok (.getfield 18, 3) := by decide +kernel
theorem dX2_format_80 : decode cX2_format 80 = .ok (.iload_n 1, 1) := by decide +kernel
theorem dX2_format_81 : decode cX2_format 81 = .ok (.putfield 58, 3) := by decide +kernel
theorem dX2_format_84 : decode cX2_format 84 = .ok (.aload_n 0, 1) := by decide +kernel
theorem dX2_format_85 : decode cX2_format 85 = .ok (.invokevirtual 61, 3) := by decide +kernel
theorem dX2_format_88 : decode cX2_format 88 = .ok (.aload_n 0, 1) := by decide +kernel
theorem dX2_format_89 : decode cX2_format 89 = .ok (.invokevirtual 64, 3) := by decide +kernel
theorem dX2_format_92 : decode cX2_format 92 = .ok (.pop, 1) := by decide +kernel
theorem dX2_format_93 : decode cX2_format 93 = .ok (.aload_n 0, 1) := by decide +kernel
theorem dX2_format_94 : decode cX2_format 94 = .ok (.invokevirtual 68, 3) := by decide +kernel
theorem dX2_format_97 : decode cX2_format 97 = .ok (.ireturn, 1) := by decide +kernel
set_option maxRecDepth 20000 in
theorem ggX2_write_X2_checkServing : GoodIn wsX2_write wsX2_checkServing := goodIn_ca (goodIn_r _ [5, 6, 7, 8, 9, 134, 135, 136, 137, 138, 139, 140, 141, 142, 143] (by decide +kernel) (by decide +kernel)) (goodIn_sub (fun _ h => List.mem_cons_of_mem _ (List.mem_append_left _ (List.mem_append_left _ (List.mem_append_right _ h)))) (by decide +kernel))
set_option maxRecDepth 20000 in
theorem gX2_write_X2_checkServing : GoodIn wsX2_write (wsV RX2 72 RX2 yX2_checkServing wsX2_checkServing) := goodIn_app (goodIn_of _ (by decide +kernel)) ggX2_write_X2_checkServing
set_option maxRecDepth 20000 in
theorem ggX2_write_X2_checkWordOfBlock : GoodIn wsX2_write wsX2_checkWordOfBlock := goodIn_ca (goodIn_r _ [13, 14, 15, 16, 17, 18, 4, 19, 20, 134, 135, 136, 137, 138, 139, 140, 141, 142, 143, 144, 145, 146, 147, 148] (by decide +kernel) (by decide +kernel)) (goodIn_sub (fun _ h => List.mem_cons_of_mem _ (List.mem_append_left _ (List.mem_append_right _ h))) (by decide +kernel))
set_option maxRecDepth 20000 in
theorem gX2_write_X2_checkWordOfBlock : GoodIn wsX2_write (wsV RX2 75 RX2 yX2_checkWordOfBlock wsX2_checkWordOfBlock) := goodIn_app (goodIn_of _ (by decide +kernel)) ggX2_write_X2_checkWordOfBlock
set_option maxRecDepth 20000 in
theorem ggX2_write_X2_placeOf : GoodIn wsX2_write wsX2_placeOf := goodIn_r _ [24, 20, 25, 26, 27, 4, 28, 134, 135, 136, 137, 138, 139, 140, 141, 142, 143, 144, 145, 146, 147, 148] (by decide +kernel) (by decide +kernel)
set_option maxRecDepth 20000 in
theorem gX2_write_X2_placeOf : GoodIn wsX2_write (wsV RX2 79 RX2 yX2_placeOf wsX2_placeOf) := goodIn_app (goodIn_of _ (by decide +kernel)) ggX2_write_X2_placeOf
set_option maxRecDepth 20000 in
theorem ggX2_write_X2_beginWrites : GoodIn wsX2_write wsX2_beginWrites := goodIn_r _ [32, 33, 34, 35, 36, 37, 134, 135, 136, 137, 138, 139, 140, 141, 142, 143] (by decide +kernel) (by decide +kernel)
set_option maxRecDepth 20000 in
theorem gX2_write_X2_beginWrites : GoodIn wsX2_write (wsV RX2 83 RX2 yX2_beginWrites wsX2_beginWrites) := goodIn_app (goodIn_of _ (by decide +kernel)) ggX2_write_X2_beginWrites
set_option maxRecDepth 20000 in
theorem ggX2_write_X2_widthIn : GoodIn wsX2_write wsX2_widthIn := goodIn_r _ [41, 20, 134, 135, 136, 137, 138, 139, 140, 141, 142, 143, 144, 145, 146, 147, 148] (by decide +kernel) (by decide +kernel)
set_option maxRecDepth 20000 in
theorem gX2_write_X2_widthIn : GoodIn wsX2_write (wsV RX2 87 RX2 yX2_widthIn wsX2_widthIn) := goodIn_app (goodIn_of _ (by decide +kernel)) ggX2_write_X2_widthIn
set_option maxRecDepth 20000 in
theorem ggX2_write_X2_issueChange : GoodIn wsX2_write wsX2_issueChange := goodIn_r _ [45, 46, 47, 48, 49, 50, 4, 51, 52, 53, 54, 55, 56, 57, 58, 59, 60, 61, 62, 63, 64, 65, 66, 67, 68, 69, 70, 71, 72, 73, 74, 75, 76, 77, 78, 79, 80, 81, 82, 83, 84, 85, 86, 87, 88, 89, 90, 91, 92, 93, 134, 135, 136, 137, 138, 139, 140, 141, 142, 143, 149, 150, 151, 152, 153, 154, 155] (by decide +kernel) (by decide +kernel)
set_option maxRecDepth 20000 in
theorem gX2_write_X2_issueChange : GoodIn wsX2_write (wsV RX2 90 RX2 yX2_issueChange wsX2_issueChange) := goodIn_app (goodIn_of _ (by decide +kernel)) ggX2_write_X2_issueChange
set_option maxRecDepth 20000 in
theorem ggX2_write_X2_awaitWrites : GoodIn wsX2_write wsX2_awaitWrites := goodIn_r _ [97, 33, 47, 9, 98, 99, 100, 4, 101, 102, 62, 63, 64, 65, 66, 67, 103, 104, 105, 75, 106, 82, 83, 107, 84, 77, 85, 86, 87, 88, 108, 109, 110, 111, 112, 113, 114, 115, 116, 117, 118, 119, 120, 121, 122, 123, 124, 125, 126, 127, 134, 135, 136, 137, 138, 139, 140, 141, 142, 143, 149, 150, 151, 152, 153, 154, 155, 144, 145, 146, 147, 148] (by decide +kernel) (by decide +kernel)
set_option maxRecDepth 20000 in
theorem gX2_write_X2_awaitWrites : GoodIn wsX2_write (wsV RX2 64 RX2 yX2_awaitWrites wsX2_awaitWrites) := goodIn_app (goodIn_of _ (by decide +kernel)) ggX2_write_X2_awaitWrites
set_option maxRecDepth 20000 in
theorem ggX2_write_X2_checkPower : GoodIn wsX2_write wsX2_checkPower := goodIn_ca (goodIn_r _ [131, 132, 133] (by decide +kernel) (by decide +kernel)) (goodIn_sub (fun _ h => List.mem_cons_of_mem _ (List.mem_append_right _ h)) (by decide +kernel))
set_option maxRecDepth 20000 in
theorem gX2_write_X2_checkPower : GoodIn wsX2_write (wsV RX2 94 RX2 yX2_checkPower wsX2_checkPower) := goodIn_app (goodIn_of _ (by decide +kernel)) ggX2_write_X2_checkPower
theorem dX2_write_0 : decode cX2_write 0 = .ok (.aload_n 0, 1) := by decide +kernel
theorem dX2_write_1 : decode cX2_write 1 = .ok (.invokevirtual 72, 3) := by decide +kernel
theorem dX2_write_4 : decode cX2_write 4 = .ok (.aload_n 0, 1) := by decide +kernel
theorem dX2_write_5 : decode cX2_write 5 = .ok (.iload_n 1, 1) := by decide +kernel
theorem dX2_write_6 : decode cX2_write 6 = .ok (.iload_n 2, 1) := by decide +kernel
theorem dX2_write_7 : decode cX2_write 7 = .ok (.invokevirtual 75, 3) := by decide +kernel
theorem dX2_write_10 : decode cX2_write 10 = .ok (.aload_n 0, 1) := by decide +kernel
theorem dX2_write_11 : decode cX2_write 11 = .ok (.iload_n 1, 1) := by decide +kernel
theorem dX2_write_12 : decode cX2_write 12 = .ok (.invokevirtual 79, 3) := by decide +kernel
theorem dX2_write_15 : decode cX2_write 15 = .ok (.istore 4, 2) := by decide +kernel
theorem dX2_write_17 : decode cX2_write 17 = .ok (.iload 4, 2) := by decide +kernel
theorem dX2_write_19 : decode cX2_write 19 = .ok (.iconst 2, 1) := by decide +kernel
theorem dX2_write_20 : decode cX2_write 20 = .ok (.if_icmp .ne 5, 3) := by decide +kernel
theorem dX2_write_23 : decode cX2_write 23 = .ok (.iconst 0, 1) := by decide +kernel
theorem dX2_write_24 : decode cX2_write 24 = .ok (.ireturn, 1) := by decide +kernel
theorem dX2_write_25 : decode cX2_write 25 = .ok (.aload_n 0, 1) := by decide +kernel
theorem dX2_write_26 : decode cX2_write 26 = .ok (.iconst 1, 1) := by decide +kernel
theorem dX2_write_27 : decode cX2_write 27 = .ok (.invokevirtual 83, 3) := by decide +kernel
theorem dX2_write_30 : decode cX2_write 30 = .ok (.aload_n 0, 1) := by decide +kernel
theorem dX2_write_31 : decode cX2_write 31 = .ok (.iload_n 1, 1) := by decide +kernel
theorem dX2_write_32 : decode cX2_write 32 = .ok (.aload_n 0, 1) := by decide +kernel
theorem dX2_write_33 : decode cX2_write 33 = .ok (.iload 4, 2) := by decide +kernel
theorem dX2_write_35 : decode cX2_write 35 = .ok (.invokevirtual 87, 3) := by decide +kernel
theorem dX2_write_38 : decode cX2_write 38 = .ok (.iload_n 2, 1) := by decide +kernel
theorem dX2_write_39 : decode cX2_write 39 = .ok (.iload_n 3, 1) := by decide +kernel
theorem dX2_write_40 : decode cX2_write 40 = .ok (.invokevirtual 90, 3) := by decide +kernel
theorem dX2_write_43 : decode cX2_write 43 = .ok (.aload_n 0, 1) := by decide +kernel
theorem dX2_write_44 : decode cX2_write 44 = .ok (.aload_n 0, 1) := by decide +kernel
theorem dX2_write_45 : decode cX2_write 45 = .ok (.invokevirtual 64, 3) := by decide +kernel
theorem dX2_write_48 : decode cX2_write 48 = .ok (.invokevirtual 94, 3) := by decide +kernel
theorem dX2_write_51 : decode cX2_write 51 = .ok (.iconst 1, 1) := by decide +kernel
theorem dX2_write_52 : decode cX2_write 52 = .ok (.ireturn, 1) := by decide +kernel
set_option maxRecDepth 20000 in
theorem ggX2_read_X2_checkServing : GoodIn wsX2_read wsX2_checkServing := goodIn_ca (goodIn_r _ [5, 6, 7, 8, 9, 68, 69, 70, 71, 72, 73, 74, 75, 76, 77] (by decide +kernel) (by decide +kernel)) (goodIn_sub (fun _ h => List.mem_cons_of_mem _ (List.mem_append_left _ (List.mem_append_right _ h))) (by decide +kernel))
set_option maxRecDepth 20000 in
theorem gX2_read_X2_checkServing : GoodIn wsX2_read (wsV RX2 72 RX2 yX2_checkServing wsX2_checkServing) := goodIn_app (goodIn_of _ (by decide +kernel)) ggX2_read_X2_checkServing
set_option maxRecDepth 20000 in
theorem ggX2_read_X2_checkWordOfBlock : GoodIn wsX2_read wsX2_checkWordOfBlock := goodIn_ca (goodIn_r _ [13, 14, 15, 16, 17, 18, 4, 19, 20, 68, 69, 70, 71, 72, 73, 74, 75, 76, 77, 78, 79, 80, 81, 82] (by decide +kernel) (by decide +kernel)) (goodIn_sub (fun _ h => List.mem_cons_of_mem _ (List.mem_append_right _ h)) (by decide +kernel))
set_option maxRecDepth 20000 in
theorem gX2_read_X2_checkWordOfBlock : GoodIn wsX2_read (wsV RX2 75 RX2 yX2_checkWordOfBlock wsX2_checkWordOfBlock) := goodIn_app (goodIn_of _ (by decide +kernel)) ggX2_read_X2_checkWordOfBlock
set_option maxRecDepth 20000 in
theorem ggX2_read_X2_wordOfBlock : GoodIn wsX2_read wsX2_wordOfBlock := goodIn_r _ [24, 25, 26, 27, 4, 28, 20, 29, 30, 31, 32, 33, 34, 35, 36, 37, 38, 39, 40, 41, 42, 43, 44, 45, 46, 47, 48, 49, 50, 51, 52, 53, 54, 55, 56, 57, 58, 59, 60, 61, 62, 63, 64, 65, 66, 67, 68, 69, 70, 71, 72, 73, 74, 75, 76, 77, 78, 79, 80, 81, 82, 83, 84, 85, 86, 87, 88, 89] (by decide +kernel) (by decide +kernel)
set_option maxRecDepth 20000 in
theorem gX2_read_X2_wordOfBlock : GoodIn wsX2_read (wsV RX2 98 RX2 yX2_wordOfBlock wsX2_wordOfBlock) := goodIn_app (goodIn_of _ (by decide +kernel)) ggX2_read_X2_wordOfBlock
theorem dX2_read_0 : decode cX2_read 0 = .ok (.aload_n 0, 1) := by decide +kernel
theorem dX2_read_1 : decode cX2_read 1 = .ok (.invokevirtual 72, 3) := by decide +kernel
theorem dX2_read_4 : decode cX2_read 4 = .ok (.aload_n 0, 1) := by decide +kernel
theorem dX2_read_5 : decode cX2_read 5 = .ok (.iload_n 1, 1) := by decide +kernel
theorem dX2_read_6 : decode cX2_read 6 = .ok (.iload_n 2, 1) := by decide +kernel
theorem dX2_read_7 : decode cX2_read 7 = .ok (.invokevirtual 75, 3) := by decide +kernel
theorem dX2_read_10 : decode cX2_read 10 = .ok (.aload_n 0, 1) := by decide +kernel
theorem dX2_read_11 : decode cX2_read 11 = .ok (.iload_n 1, 1) := by decide +kernel
theorem dX2_read_12 : decode cX2_read 12 = .ok (.iload_n 2, 1) := by decide +kernel
theorem dX2_read_13 : decode cX2_read 13 = .ok (.invokevirtual 98, 3) := by decide +kernel
theorem dX2_read_16 : decode cX2_read 16 = .ok (.ireturn, 1) := by decide +kernel
set_option maxRecDepth 20000 in
theorem ggX2_widen_X2_checkServing : GoodIn wsX2_widen wsX2_checkServing := goodIn_ca (goodIn_r _ [9, 10, 11, 12, 13, 102, 103, 104, 105, 106, 107, 108, 109, 110, 111] (by decide +kernel) (by decide +kernel)) (goodIn_sub (fun _ h => List.mem_cons_of_mem _ (List.mem_append_left _ (List.mem_append_right _ h))) (by decide +kernel))
set_option maxRecDepth 20000 in
theorem gX2_widen_X2_checkServing : GoodIn wsX2_widen (wsV RX2 72 RX2 yX2_checkServing wsX2_checkServing) := goodIn_app (goodIn_of _ (by decide +kernel)) ggX2_widen_X2_checkServing
set_option maxRecDepth 20000 in
theorem ggX2_widen_X2_absentDisk : GoodIn wsX2_widen wsX2_absentDisk := goodIn_r _ [17, 18, 19, 102, 103, 104, 105, 106, 107, 108, 109, 110, 111] (by decide +kernel) (by decide +kernel)
set_option maxRecDepth 20000 in
theorem gX2_widen_X2_absentDisk : GoodIn wsX2_widen (wsV RX2 105 RX2 yX2_absentDisk wsX2_absentDisk) := goodIn_app (goodIn_of _ (by decide +kernel)) ggX2_widen_X2_absentDisk
set_option maxRecDepth 20000 in
theorem ggX2_widen_X2_beginWrites : GoodIn wsX2_widen wsX2_beginWrites := goodIn_r _ [23, 24, 25, 26, 27, 28, 102, 103, 104, 105, 106, 107, 108, 109, 110, 111] (by decide +kernel) (by decide +kernel)
set_option maxRecDepth 20000 in
theorem gX2_widen_X2_beginWrites : GoodIn wsX2_widen (wsV RX2 83 RX2 yX2_beginWrites wsX2_beginWrites) := goodIn_app (goodIn_of _ (by decide +kernel)) ggX2_widen_X2_beginWrites
set_option maxRecDepth 20000 in
theorem ggX2_widen_X0_empty : GoodIn wsX2_widen wsX0_empty := goodIn_r _ [33, 34, 35, 36, 37, 38, 39, 40, 41, 42, 43, 44, 45, 46, 47, 48, 49, 50, 51, 117, 118, 119, 120, 121, 122, 123, 112, 113, 114, 115, 116] (by decide +kernel) (by decide +kernel)
set_option maxRecDepth 20000 in
theorem gX2_widen_X0_empty : GoodIn wsX2_widen (wsV RX2 44 RX0 yX0_empty wsX0_empty) := goodIn_app (goodIn_of _ (by decide +kernel)) ggX2_widen_X0_empty
set_option maxRecDepth 20000 in
theorem ggX2_widen_X2_issueNewMarks : GoodIn wsX2_widen wsX2_issueNewMarks := goodIn_r _ [55, 3, 4, 56, 57, 58, 8, 59, 60, 61, 62, 32, 63, 37, 64, 65, 66, 67, 68, 45, 69, 47, 48, 49, 50, 51, 102, 103, 104, 105, 106, 107, 108, 109, 110, 111, 112, 113, 114, 115, 116, 117, 118, 119, 120, 121, 122, 123] (by decide +kernel) (by decide +kernel)
set_option maxRecDepth 20000 in
theorem gX2_widen_X2_issueNewMarks : GoodIn wsX2_widen (wsV RX2 61 RX2 yX2_issueNewMarks wsX2_issueNewMarks) := goodIn_app (goodIn_of _ (by decide +kernel)) ggX2_widen_X2_issueNewMarks
set_option maxRecDepth 20000 in
theorem ggX2_widen_X2_awaitWrites : GoodIn wsX2_widen wsX2_awaitWrites := goodIn_r _ [73, 24, 4, 13, 74, 75, 76, 8, 77, 78, 14, 15, 16, 17, 18, 19, 79, 80, 81, 32, 82, 37, 64, 65, 83, 34, 84, 85, 86, 87, 88, 89, 90, 91, 92, 93, 94, 95, 36, 35, 66, 67, 68, 45, 69, 47, 48, 49, 50, 51, 102, 103, 104, 105, 106, 107, 108, 109, 110, 111, 117, 118, 119, 120, 121, 122, 123, 112, 113, 114, 115, 116] (by decide +kernel) (by decide +kernel)
set_option maxRecDepth 20000 in
theorem gX2_widen_X2_awaitWrites : GoodIn wsX2_widen (wsV RX2 64 RX2 yX2_awaitWrites wsX2_awaitWrites) := goodIn_app (goodIn_of _ (by decide +kernel)) ggX2_widen_X2_awaitWrites
set_option maxRecDepth 20000 in
theorem ggX2_widen_X2_checkPower : GoodIn wsX2_widen wsX2_checkPower := goodIn_ca (goodIn_r _ [99, 100, 101] (by decide +kernel) (by decide +kernel)) (goodIn_sub (fun _ h => List.mem_cons_of_mem _ (List.mem_append_right _ h)) (by decide +kernel))
set_option maxRecDepth 20000 in
theorem gX2_widen_X2_checkPower : GoodIn wsX2_widen (wsV RX2 94 RX2 yX2_checkPower wsX2_checkPower) := goodIn_app (goodIn_of _ (by decide +kernel)) ggX2_widen_X2_checkPower
set_option maxRecDepth 20000 in
theorem ggX2_widen_X2_diskCount : GoodIn wsX2_widen wsX2_diskCount := goodIn_r _ [59, 3, 102, 103, 104, 105, 106, 107, 108, 109, 110, 111, 112, 113, 114, 115, 116] (by decide +kernel) (by decide +kernel)
set_option maxRecDepth 20000 in
theorem gX2_widen_X2_diskCount : GoodIn wsX2_widen (wsV RX2 116 RX2 yX2_diskCount wsX2_diskCount) := goodIn_app (goodIn_of _ (by decide +kernel)) ggX2_widen_X2_diskCount
theorem dX2_widen_0 : decode cX2_widen 0 = .ok (.aload_n 0, 1) := by decide +kernel
theorem dX2_widen_1 : decode cX2_widen 1 = .ok (.invokevirtual 72, 3) := by decide +kernel
theorem dX2_widen_4 : decode cX2_widen 4 = .ok (.aload_n 0, 1) := by decide +kernel
theorem dX2_widen_5 : decode cX2_widen 5 = .ok (.getfield 18, 3) := by decide +kernel
theorem dX2_widen_8 : decode cX2_widen 8 = .ok (.getfield 102, 3) := by decide +kernel
theorem dX2_widen_11 : decode cX2_widen 11 = .ok (.ifCond .ne 23, 3) := by decide +kernel
theorem dX2_widen_14 : decode cX2_widen 14 = .ok (.aload_n 0, 1) := by decide +kernel
theorem dX2_widen_15 : decode cX2_widen 15 = .ok (.getfield 18, 3) := by decide +kernel
theorem dX2_widen_18 : decode cX2_widen 18 = .ok (.getfield 58, 3) := by decide +kernel
theorem dX2_widen_21 : decode cX2_widen 21 = .ok (.bipush 6, 2) := by decide +kernel
theorem dX2_widen_23 : decode cX2_widen 23 = .ok (.if_icmp .eq 11, 3) := by decide +kernel
theorem dX2_widen_26 : decode cX2_widen 26 = .ok (.aload_n 0, 1) := by decide +kernel
theorem dX2_widen_27 : decode cX2_widen 27 = .ok (.invokevirtual 105, 3) := by decide +kernel
theorem dX2_widen_30 : decode cX2_widen 30 = .ok (.iconst (-1), 1) := by decide +kernel
theorem dX2_widen_31 : decode cX2_widen 31 = .ok (.if_icmp .eq 13, 3) := by decide +kernel
theorem dX2_widen_34 : decode cX2_widen 34 = .ok (.new 37, 3) := by decide +kernel
theorem dX2_widen_37 : decode cX2_widen 37 = .ok (.dup, 1) := by decide +kernel
theorem dX2_widen_38 : decode cX2_widen 38 = .ok (.ldc 108, 2) := by decide +kernel
theorem dX2_widen_40 : decode cX2_widen 40 = .ok (.invokespecial 41, 3) := by decide +kernel
theorem dX2_widen_43 : decode cX2_widen 43 = .ok (.athrow, 1) := by decide +kernel
theorem dX2_widen_44 : decode cX2_widen 44 = .ok (.aload_n 0, 1) := by decide +kernel
theorem dX2_widen_45 : decode cX2_widen 45 = .ok (.iconst 1, 1) := by decide +kernel
theorem dX2_widen_46 : decode cX2_widen 46 = .ok (.invokevirtual 83, 3) := by decide +kernel
theorem dX2_widen_49 : decode cX2_widen 49 = .ok (.aload_n 0, 1) := by decide +kernel
theorem dX2_widen_50 : decode cX2_widen 50 = .ok (.getfield 11, 3) := by decide +kernel
theorem dX2_widen_53 : decode cX2_widen 53 = .ok (.aload_n 0, 1) := by decide +kernel
theorem dX2_widen_54 : decode cX2_widen 54 = .ok (.getfield 18, 3) := by decide +kernel
theorem dX2_widen_57 : decode cX2_widen 57 = .ok (.getfield 58, 3) := by decide +kernel
theorem dX2_widen_60 : decode cX2_widen 60 = .ok (.aaload, 1) := by decide +kernel
theorem dX2_widen_61 : decode cX2_widen 61 = .ok (.invokevirtual 44, 3) := by decide +kernel
theorem dX2_widen_64 : decode cX2_widen 64 = .ok (.aload_n 0, 1) := by decide +kernel
theorem dX2_widen_65 : decode cX2_widen 65 = .ok (.getfield 18, 3) := by decide +kernel
theorem dX2_widen_68 : decode cX2_widen 68 = .ok (.iconst 1, 1) := by decide +kernel
theorem dX2_widen_69 : decode cX2_widen 69 = .ok (.putfield 102, 3) := by decide +kernel
theorem dX2_widen_72 : decode cX2_widen 72 = .ok (.aload_n 0, 1) := by decide +kernel
theorem dX2_widen_73 : decode cX2_widen 73 = .ok (.getfield 18, 3) := by decide +kernel
theorem dX2_widen_76 : decode cX2_widen 76 = .ok (.iconst 0, 1) := by decide +kernel
theorem dX2_widen_77 : decode cX2_widen 77 = .ok (.putfield 110, 3) := by decide +kernel
theorem dX2_widen_80 : decode cX2_widen 80 = .ok (.aload_n 0, 1) := by decide +kernel
theorem dX2_widen_81 : decode cX2_widen 81 = .ok (.getfield 18, 3) := by decide +kernel
theorem dX2_widen_84 : decode cX2_widen 84 = .ok (.iconst 0, 1) := by decide +kernel
theorem dX2_widen_85 : decode cX2_widen 85 = .ok (.putfield 113, 3) := by decide +kernel
theorem dX2_widen_88 : decode cX2_widen 88 = .ok (.aload_n 0, 1) := by decide +kernel
theorem dX2_widen_89 : decode cX2_widen 89 = .ok (.invokevirtual 61, 3) := by decide +kernel
theorem dX2_widen_92 : decode cX2_widen 92 = .ok (.aload_n 0, 1) := by decide +kernel
theorem dX2_widen_93 : decode cX2_widen 93 = .ok (.aload_n 0, 1) := by decide +kernel
theorem dX2_widen_94 : decode cX2_widen 94 = .ok (.invokevirtual 64, 3) := by decide +kernel
theorem dX2_widen_97 : decode cX2_widen 97 = .ok (.invokevirtual 94, 3) := by decide +kernel
theorem dX2_widen_100 : decode cX2_widen 100 = .ok (.aload_n 0, 1) := by decide +kernel
theorem dX2_widen_101 : decode cX2_widen 101 = .ok (.invokevirtual 116, 3) := by decide +kernel
theorem dX2_widen_104 : decode cX2_widen 104 = .ok (.ireturn, 1) := by decide +kernel
set_option maxRecDepth 20000 in
theorem ggX2_step_X2_checkServing : GoodIn wsX2_step wsX2_checkServing := goodIn_ca (goodIn_r _ [8, 9, 10, 11, 12, 158, 159, 160, 161, 162, 163, 164, 165, 166, 167] (by decide +kernel) (by decide +kernel)) (goodIn_sub (fun _ h => List.mem_cons_of_mem _ (List.mem_append_left _ (List.mem_append_right _ h))) (by decide +kernel))
set_option maxRecDepth 20000 in
theorem gX2_step_X2_checkServing : GoodIn wsX2_step (wsV RX2 72 RX2 yX2_checkServing wsX2_checkServing) := goodIn_app (goodIn_of _ (by decide +kernel)) ggX2_step_X2_checkServing
set_option maxRecDepth 20000 in
theorem ggX2_step_X2_beginWrites : GoodIn wsX2_step wsX2_beginWrites := goodIn_r _ [16, 17, 18, 19, 20, 21, 158, 159, 160, 161, 162, 163, 164, 165, 166, 167] (by decide +kernel) (by decide +kernel)
set_option maxRecDepth 20000 in
theorem gX2_step_X2_beginWrites : GoodIn wsX2_step (wsV RX2 83 RX2 yX2_beginWrites wsX2_beginWrites) := goodIn_app (goodIn_of _ (by decide +kernel)) ggX2_step_X2_beginWrites
set_option maxRecDepth 20000 in
theorem ggX2_step_X2_fetchWindow : GoodIn wsX2_step wsX2_fetchWindow := goodIn_r _ [25, 3, 26, 27, 28, 29, 7, 30, 31, 32, 33, 34, 35, 36, 37, 38, 39, 40, 41, 42, 43, 44, 45, 46, 47, 48, 49, 50, 51, 52, 53, 54, 55, 56, 57, 58, 59, 60, 61, 62, 63, 64, 65, 66, 67, 68, 69, 70, 71, 72, 73, 74, 75, 76, 77, 158, 159, 160, 161, 162, 163, 164, 165, 166, 167, 168, 169, 170, 171, 172, 173, 174, 175, 176, 177, 178, 179] (by decide +kernel) (by decide +kernel)
set_option maxRecDepth 20000 in
theorem gX2_step_X2_fetchWindow : GoodIn wsX2_step (wsV RX2 121 RX2 yX2_fetchWindow wsX2_fetchWindow) := goodIn_app (goodIn_of _ (by decide +kernel)) ggX2_step_X2_fetchWindow
set_option maxRecDepth 20000 in
theorem ggX2_step_X2_stashWindow : GoodIn wsX2_step wsX2_stashWindow := goodIn_r _ [81, 3, 47, 26, 82, 83, 84, 57, 85, 86, 87, 88, 89, 90, 91, 92, 93, 94, 95, 7, 96, 17, 12, 97, 98, 99, 100, 101, 48, 49, 50, 51, 52, 53, 102, 103, 104, 105, 106, 59, 107, 108, 109, 110, 111, 112, 113, 114, 115, 116, 117, 118, 119, 120, 121, 122, 123, 124, 125, 126, 127, 128, 129, 130, 131, 132, 133, 134, 135, 136, 137, 138, 158, 159, 160, 161, 162, 163, 164, 165, 166, 167, 168, 169, 170, 171, 172, 173, 174, 175, 176, 177, 178, 179] (by decide +kernel) (by decide +kernel)
set_option maxRecDepth 20000 in
theorem gX2_step_X2_stashWindow : GoodIn wsX2_step (wsV RX2 124 RX2 yX2_stashWindow wsX2_stashWindow) := goodIn_app (goodIn_of _ (by decide +kernel)) ggX2_step_X2_stashWindow
set_option maxRecDepth 20000 in
theorem ggX2_step_X2_layWindow : GoodIn wsX2_step wsX2_layWindow := goodIn_r _ [142, 3, 47, 26, 64, 65, 7, 66, 67, 68, 69, 82, 83, 84, 57, 85, 86, 87, 88, 89, 90, 91, 92, 143, 144, 145, 146, 147, 93, 94, 95, 96, 17, 12, 97, 98, 99, 100, 101, 48, 49, 50, 51, 52, 53, 102, 103, 104, 105, 106, 59, 107, 108, 109, 110, 111, 112, 113, 114, 115, 116, 117, 118, 119, 120, 121, 122, 123, 124, 125, 126, 158, 159, 160, 161, 162, 163, 164, 165, 166, 167, 168, 169, 170, 171, 172, 173, 174, 175, 176, 177, 178, 179] (by decide +kernel) (by decide +kernel)
set_option maxRecDepth 20000 in
theorem gX2_step_X2_layWindow : GoodIn wsX2_step (wsV RX2 127 RX2 yX2_layWindow wsX2_layWindow) := goodIn_app (goodIn_of _ (by decide +kernel)) ggX2_step_X2_layWindow
set_option maxRecDepth 20000 in
theorem ggX2_step_X2_markRowDone : GoodIn wsX2_step wsX2_markRowDone := goodIn_r _ [151, 3, 127, 128, 129, 7, 130, 47, 131, 132, 133, 134, 135, 136, 137, 57, 138, 86, 87, 106, 117, 118, 119, 120, 121, 122, 123, 124, 125, 126, 93, 94, 95, 96, 17, 12, 97, 98, 99, 100, 101, 48, 49, 50, 51, 52, 53, 102, 103, 104, 105, 88, 59, 89, 90, 91, 92, 107, 108, 109, 110, 111, 112, 113, 114, 115, 116, 158, 159, 160, 161, 162, 163, 164, 165, 166, 167, 168, 169, 170, 171, 172, 173, 174, 175, 176, 177, 178, 179] (by decide +kernel) (by decide +kernel)
set_option maxRecDepth 20000 in
theorem gX2_step_X2_markRowDone : GoodIn wsX2_step (wsV RX2 130 RX2 yX2_markRowDone wsX2_markRowDone) := goodIn_app (goodIn_of _ (by decide +kernel)) ggX2_step_X2_markRowDone
set_option maxRecDepth 20000 in
theorem ggX2_step_X2_checkPower : GoodIn wsX2_step wsX2_checkPower := goodIn_ca (goodIn_r _ [155, 156, 157] (by decide +kernel) (by decide +kernel)) (goodIn_sub (fun _ h => List.mem_cons_of_mem _ (List.mem_append_right _ h)) (by decide +kernel))
set_option maxRecDepth 20000 in
theorem gX2_step_X2_checkPower : GoodIn wsX2_step (wsV RX2 94 RX2 yX2_checkPower wsX2_checkPower) := goodIn_app (goodIn_of _ (by decide +kernel)) ggX2_step_X2_checkPower
theorem dX2_step_0 : decode cX2_step 0 = .ok (.aload_n 0, 1) := by decide +kernel
theorem dX2_step_1 : decode cX2_step 1 = .ok (.invokevirtual 72, 3) := by decide +kernel
theorem dX2_step_4 : decode cX2_step 4 = .ok (.aload_n 0, 1) := by decide +kernel
theorem dX2_step_5 : decode cX2_step 5 = .ok (.getfield 18, 3) := by decide +kernel
theorem dX2_step_8 : decode cX2_step 8 = .ok (.getfield 102, 3) := by decide +kernel
theorem dX2_step_11 : decode cX2_step 11 = .ok (.ifCond .ne 13, 3) := by decide +kernel
theorem dX2_step_14 : decode cX2_step 14 = .ok (.new 37, 3) := by decide +kernel
theorem dX2_step_17 : decode cX2_step 17 = .ok (.dup, 1) := by decide +kernel
theorem dX2_step_18 : decode cX2_step 18 = .ok (.ldc 119, 2) := by decide +kernel
theorem dX2_step_20 : decode cX2_step 20 = .ok (.invokespecial 41, 3) := by decide +kernel
theorem dX2_step_23 : decode cX2_step 23 = .ok (.athrow, 1) := by decide +kernel
theorem dX2_step_24 : decode cX2_step 24 = .ok (.aload_n 0, 1) := by decide +kernel
theorem dX2_step_25 : decode cX2_step 25 = .ok (.aload_n 0, 1) := by decide +kernel
theorem dX2_step_26 : decode cX2_step 26 = .ok (.getfield 18, 3) := by decide +kernel
theorem dX2_step_29 : decode cX2_step 29 = .ok (.getfield 113, 3) := by decide +kernel
theorem dX2_step_32 : decode cX2_step 32 = .ok (.ifCond .eq 7, 3) := by decide +kernel
theorem dX2_step_35 : decode cX2_step 35 = .ok (.iconst 2, 1) := by decide +kernel
theorem dX2_step_36 : decode cX2_step 36 = .ok (.goto 4, 3) := by decide +kernel
theorem dX2_step_39 : decode cX2_step 39 = .ok (.iconst 4, 1) := by decide +kernel
theorem dX2_step_40 : decode cX2_step 40 = .ok (.invokevirtual 83, 3) := by decide +kernel
theorem dX2_step_43 : decode cX2_step 43 = .ok (.aload_n 0, 1) := by decide +kernel
theorem dX2_step_44 : decode cX2_step 44 = .ok (.invokevirtual 121, 3) := by decide +kernel
theorem dX2_step_47 : decode cX2_step 47 = .ok (.aload_n 0, 1) := by decide +kernel
theorem dX2_step_48 : decode cX2_step 48 = .ok (.aload_n 0, 1) := by decide +kernel
theorem dX2_step_49 : decode cX2_step 49 = .ok (.getfield 18, 3) := by decide +kernel
theorem dX2_step_52 : decode cX2_step 52 = .ok (.getfield 113, 3) := by decide +kernel
theorem dX2_step_55 : decode cX2_step 55 = .ok (.ifCond .ne 10, 3) := by decide +kernel
theorem dX2_step_58 : decode cX2_step 58 = .ok (.aload_n 0, 1) := by decide +kernel
theorem dX2_step_59 : decode cX2_step 59 = .ok (.invokevirtual 124, 3) := by decide +kernel
theorem dX2_step_62 : decode cX2_step 62 = .ok (.ifCond .eq 21, 3) := by decide +kernel
theorem dX2_step_65 : decode cX2_step 65 = .ok (.aload_n 0, 1) := by decide +kernel
theorem dX2_step_66 : decode cX2_step 66 = .ok (.invokevirtual 127, 3) := by decide +kernel
theorem dX2_step_69 : decode cX2_step 69 = .ok (.ifCond .eq 14, 3) := by decide +kernel
theorem dX2_step_72 : decode cX2_step 72 = .ok (.aload_n 0, 1) := by decide +kernel
theorem dX2_step_73 : decode cX2_step 73 = .ok (.invokevirtual 130, 3) := by decide +kernel
theorem dX2_step_76 : decode cX2_step 76 = .ok (.ifCond .eq 7, 3) := by decide +kernel
theorem dX2_step_79 : decode cX2_step 79 = .ok (.iconst 1, 1) := by decide +kernel
theorem dX2_step_80 : decode cX2_step 80 = .ok (.goto 4, 3) := by decide +kernel
theorem dX2_step_83 : decode cX2_step 83 = .ok (.iconst 0, 1) := by decide +kernel
theorem dX2_step_84 : decode cX2_step 84 = .ok (.invokevirtual 94, 3) := by decide +kernel
theorem dX2_step_87 : decode cX2_step 87 = .ok (.aload_n 0, 1) := by decide +kernel
theorem dX2_step_88 : decode cX2_step 88 = .ok (.getfield 18, 3) := by decide +kernel
theorem dX2_step_91 : decode cX2_step 91 = .ok (.getfield 110, 3) := by decide +kernel
theorem dX2_step_94 : decode cX2_step 94 = .ok (.ireturn, 1) := by decide +kernel
set_option maxRecDepth 20000 in
theorem ggX2_lose_X2_checkServing : GoodIn wsX2_lose wsX2_checkServing := goodIn_ca (goodIn_r _ [10, 11, 12, 13, 14, 54, 55, 56, 57, 58, 59, 60, 61, 62, 63] (by decide +kernel) (by decide +kernel)) (goodIn_sub (fun _ h => List.mem_cons_of_mem _ (List.mem_append_left _ (List.mem_append_right _ h))) (by decide +kernel))
set_option maxRecDepth 20000 in
theorem gX2_lose_X2_checkServing : GoodIn wsX2_lose (wsV RX2 72 RX2 yX2_checkServing wsX2_checkServing) := goodIn_app (goodIn_of _ (by decide +kernel)) ggX2_lose_X2_checkServing
set_option maxRecDepth 20000 in
theorem ggX2_lose_X2_checkDisk : GoodIn wsX2_lose wsX2_checkDisk := goodIn_ca (goodIn_r _ [18, 19, 20, 21, 22, 23, 9, 24, 25, 54, 55, 56, 57, 58, 59, 60, 61, 62, 63, 64, 65, 66, 67, 68] (by decide +kernel) (by decide +kernel)) (goodIn_sub (fun _ h => List.mem_cons_of_mem _ (List.mem_append_right _ h)) (by decide +kernel))
set_option maxRecDepth 20000 in
theorem gX2_lose_X2_checkDisk : GoodIn wsX2_lose (wsV RX2 133 RX2 yX2_checkDisk wsX2_checkDisk) := goodIn_app (goodIn_of _ (by decide +kernel)) ggX2_lose_X2_checkDisk
set_option maxRecDepth 20000 in
theorem ggX2_lose_X2_absentDisk : GoodIn wsX2_lose wsX2_absentDisk := goodIn_r _ [29, 4, 30, 54, 55, 56, 57, 58, 59, 60, 61, 62, 63] (by decide +kernel) (by decide +kernel)
set_option maxRecDepth 20000 in
theorem gX2_lose_X2_absentDisk : GoodIn wsX2_lose (wsV RX2 105 RX2 yX2_absentDisk wsX2_absentDisk) := goodIn_app (goodIn_of _ (by decide +kernel)) ggX2_lose_X2_absentDisk
set_option maxRecDepth 20000 in
theorem ggX2_lose_X0_empty : GoodIn wsX2_lose wsX0_empty := goodIn_r _ [35, 36, 37, 38, 39, 40, 41, 42, 43, 44, 45, 46, 47, 48, 49, 50, 51, 52, 53, 69, 70, 71, 72, 73, 74, 75, 64, 65, 66, 67, 68] (by decide +kernel) (by decide +kernel)
set_option maxRecDepth 20000 in
theorem gX2_lose_X0_empty : GoodIn wsX2_lose (wsV RX2 44 RX0 yX0_empty wsX0_empty) := goodIn_app (goodIn_of _ (by decide +kernel)) ggX2_lose_X0_empty
theorem dX2_lose_0 : decode cX2_lose 0 = .ok (.aload_n 0, 1) := by decide +kernel
theorem dX2_lose_1 : decode cX2_lose 1 = .ok (.invokevirtual 72, 3) := by decide +kernel
theorem dX2_lose_4 : decode cX2_lose 4 = .ok (.aload_n 0, 1) := by decide +kernel
theorem dX2_lose_5 : decode cX2_lose 5 = .ok (.iload_n 1, 1) := by decide +kernel
theorem dX2_lose_6 : decode cX2_lose 6 = .ok (.invokevirtual 133, 3) := by decide +kernel
theorem dX2_lose_9 : decode cX2_lose 9 = .ok (.aload_n 0, 1) := by decide +kernel
theorem dX2_lose_10 : decode cX2_lose 10 = .ok (.invokevirtual 105, 3) := by decide +kernel
theorem dX2_lose_13 : decode cX2_lose 13 = .ok (.iconst (-1), 1) := by decide +kernel
theorem dX2_lose_14 : decode cX2_lose 14 = .ok (.if_icmp .ne 10, 3) := by decide +kernel
theorem dX2_lose_17 : decode cX2_lose 17 = .ok (.aload_n 0, 1) := by decide +kernel
theorem dX2_lose_18 : decode cX2_lose 18 = .ok (.getfield 54, 3) := by decide +kernel
theorem dX2_lose_21 : decode cX2_lose 21 = .ok (.ifCond .eq 13, 3) := by decide +kernel
theorem dX2_lose_24 : decode cX2_lose 24 = .ok (.new 37, 3) := by decide +kernel
theorem dX2_lose_27 : decode cX2_lose 27 = .ok (.dup, 1) := by decide +kernel
theorem dX2_lose_28 : decode cX2_lose 28 = .ok (.ldc 136, 2) := by decide +kernel
theorem dX2_lose_30 : decode cX2_lose 30 = .ok (.invokespecial 41, 3) := by decide +kernel
theorem dX2_lose_33 : decode cX2_lose 33 = .ok (.athrow, 1) := by decide +kernel
theorem dX2_lose_34 : decode cX2_lose 34 = .ok (.aload_n 0, 1) := by decide +kernel
theorem dX2_lose_35 : decode cX2_lose 35 = .ok (.iload_n 1, 1) := by decide +kernel
theorem dX2_lose_36 : decode cX2_lose 36 = .ok (.putfield 29, 3) := by decide +kernel
theorem dX2_lose_39 : decode cX2_lose 39 = .ok (.aload_n 0, 1) := by decide +kernel
theorem dX2_lose_40 : decode cX2_lose 40 = .ok (.getfield 11, 3) := by decide +kernel
theorem dX2_lose_43 : decode cX2_lose 43 = .ok (.iload_n 1, 1) := by decide +kernel
theorem dX2_lose_44 : decode cX2_lose 44 = .ok (.aaload, 1) := by decide +kernel
theorem dX2_lose_45 : decode cX2_lose 45 = .ok (.invokevirtual 44, 3) := by decide +kernel
theorem dX2_lose_48 : decode cX2_lose 48 = .ok (.return_, 1) := by decide +kernel
set_option maxRecDepth 20000 in
theorem ggX2_replace_X2_checkServing : GoodIn wsX2_replace wsX2_checkServing := goodIn_ca (goodIn_r _ [9, 10, 11, 12, 13, 14, 15, 16, 17, 18, 19, 20, 21, 22, 23] (by decide +kernel) (by decide +kernel)) (goodIn_sub (fun _ h => List.mem_cons_of_mem _ (List.mem_append_right _ h)) (by decide +kernel))
set_option maxRecDepth 20000 in
theorem gX2_replace_X2_checkServing : GoodIn wsX2_replace (wsV RX2 72 RX2 yX2_checkServing wsX2_checkServing) := goodIn_app (goodIn_of _ (by decide +kernel)) ggX2_replace_X2_checkServing
theorem dX2_replace_0 : decode cX2_replace 0 = .ok (.aload_n 0, 1) := by decide +kernel
theorem dX2_replace_1 : decode cX2_replace 1 = .ok (.invokevirtual 72, 3) := by decide +kernel
theorem dX2_replace_4 : decode cX2_replace 4 = .ok (.aload_n 0, 1) := by decide +kernel
theorem dX2_replace_5 : decode cX2_replace 5 = .ok (.getfield 29, 3) := by decide +kernel
theorem dX2_replace_8 : decode cX2_replace 8 = .ok (.iconst (-1), 1) := by decide +kernel
theorem dX2_replace_9 : decode cX2_replace 9 = .ok (.if_icmp .ne 13, 3) := by decide +kernel
theorem dX2_replace_12 : decode cX2_replace 12 = .ok (.new 37, 3) := by decide +kernel
theorem dX2_replace_15 : decode cX2_replace 15 = .ok (.dup, 1) := by decide +kernel
theorem dX2_replace_16 : decode cX2_replace 16 = .ok (.ldc 138, 2) := by decide +kernel
theorem dX2_replace_18 : decode cX2_replace 18 = .ok (.invokespecial 41, 3) := by decide +kernel
theorem dX2_replace_21 : decode cX2_replace 21 = .ok (.athrow, 1) := by decide +kernel
theorem dX2_replace_22 : decode cX2_replace 22 = .ok (.aload_n 0, 1) := by decide +kernel
theorem dX2_replace_23 : decode cX2_replace 23 = .ok (.aload_n 0, 1) := by decide +kernel
theorem dX2_replace_24 : decode cX2_replace 24 = .ok (.getfield 29, 3) := by decide +kernel
theorem dX2_replace_27 : decode cX2_replace 27 = .ok (.putfield 33, 3) := by decide +kernel
theorem dX2_replace_30 : decode cX2_replace 30 = .ok (.aload_n 0, 1) := by decide +kernel
theorem dX2_replace_31 : decode cX2_replace 31 = .ok (.iconst (-1), 1) := by decide +kernel
theorem dX2_replace_32 : decode cX2_replace 32 = .ok (.putfield 29, 3) := by decide +kernel
theorem dX2_replace_35 : decode cX2_replace 35 = .ok (.aload_n 0, 1) := by decide +kernel
theorem dX2_replace_36 : decode cX2_replace 36 = .ok (.getfield 33, 3) := by decide +kernel
theorem dX2_replace_39 : decode cX2_replace 39 = .ok (.ireturn, 1) := by decide +kernel
set_option maxRecDepth 20000 in
theorem ggX2_rebuild_X2_checkServing : GoodIn wsX2_rebuild wsX2_checkServing := goodIn_ca (goodIn_r _ [10, 11, 12, 13, 14, 78, 79, 80, 81, 82, 83, 84, 85, 86, 87] (by decide +kernel) (by decide +kernel)) (goodIn_sub (fun _ h => List.mem_cons_of_mem _ (List.mem_append_right _ h)) (by decide +kernel))
set_option maxRecDepth 20000 in
theorem gX2_rebuild_X2_checkServing : GoodIn wsX2_rebuild (wsV RX2 72 RX2 yX2_checkServing wsX2_checkServing) := goodIn_app (goodIn_of _ (by decide +kernel)) ggX2_rebuild_X2_checkServing
set_option maxRecDepth 20000 in
theorem ggX2_rebuild_X2_rebuildDataRows : GoodIn wsX2_rebuild wsX2_rebuildDataRows := goodIn_r _ [18, 19, 20, 21, 9, 22, 5, 23, 24, 25, 26, 27, 28, 29, 30, 4, 31, 32, 33, 34, 35, 36, 37, 38, 39, 40, 41, 42, 43, 44, 78, 79, 80, 81, 82, 83, 84, 85, 86, 87, 88, 89, 90, 91, 92, 93, 94, 95, 96, 97, 98, 99] (by decide +kernel) (by decide +kernel)
set_option maxRecDepth 20000 in
theorem gX2_rebuild_X2_rebuildDataRows : GoodIn wsX2_rebuild (wsV RX2 142 RX2 yX2_rebuildDataRows wsX2_rebuildDataRows) := goodIn_app (goodIn_of _ (by decide +kernel)) ggX2_rebuild_X2_rebuildDataRows
set_option maxRecDepth 20000 in
theorem ggX2_rebuild_X2_rebuildStash : GoodIn wsX2_rebuild wsX2_rebuildStash := goodIn_r _ [48, 5, 4, 49, 50, 51, 9, 52, 53, 54, 55, 56, 57, 3, 35, 36, 37, 38, 39, 40, 41, 42, 43, 44, 78, 79, 80, 81, 82, 83, 84, 85, 86, 87, 88, 89, 90, 91, 92, 93, 94, 95, 96, 97, 98, 99] (by decide +kernel) (by decide +kernel)
set_option maxRecDepth 20000 in
theorem gX2_rebuild_X2_rebuildStash : GoodIn wsX2_rebuild (wsV RX2 145 RX2 yX2_rebuildStash wsX2_rebuildStash) := goodIn_app (goodIn_of _ (by decide +kernel)) ggX2_rebuild_X2_rebuildStash
set_option maxRecDepth 20000 in
theorem ggX2_rebuild_X0_setMarks : GoodIn wsX2_rebuild wsX0_setMarks := goodIn_r _ [61, 62, 63, 64, 38, 65, 66, 67, 68, 69, 70, 71, 72, 73, 74, 75, 76, 77, 88, 89, 90, 91, 92, 93, 94, 95, 96, 97, 98, 99] (by decide +kernel) (by decide +kernel)
set_option maxRecDepth 20000 in
theorem gX2_rebuild_X0_setMarks : GoodIn wsX2_rebuild (wsV RX2 148 RX0 yX0_setMarks wsX0_setMarks) := goodIn_app (goodIn_of _ (by decide +kernel)) ggX2_rebuild_X0_setMarks
theorem dX2_rebuild_0 : decode cX2_rebuild 0 = .ok (.aload_n 0, 1) := by decide +kernel
theorem dX2_rebuild_1 : decode cX2_rebuild 1 = .ok (.invokevirtual 72, 3) := by decide +kernel
theorem dX2_rebuild_4 : decode cX2_rebuild 4 = .ok (.aload_n 0, 1) := by decide +kernel
theorem dX2_rebuild_5 : decode cX2_rebuild 5 = .ok (.getfield 33, 3) := by decide +kernel
theorem dX2_rebuild_8 : decode cX2_rebuild 8 = .ok (.iconst (-1), 1) := by decide +kernel
theorem dX2_rebuild_9 : decode cX2_rebuild 9 = .ok (.if_icmp .ne 13, 3) := by decide +kernel
theorem dX2_rebuild_12 : decode cX2_rebuild 12 = .ok (.new 37, 3) := by decide +kernel
theorem dX2_rebuild_15 : decode cX2_rebuild 15 = .ok (.dup, 1) := by decide +kernel
theorem dX2_rebuild_16 : decode cX2_rebuild 16 = .ok (.ldc 140, 2) := by decide +kernel
theorem dX2_rebuild_18 : decode cX2_rebuild 18 = .ok (.invokespecial 41, 3) := by decide +kernel
theorem dX2_rebuild_21 : decode cX2_rebuild 21 = .ok (.athrow, 1) := by decide +kernel
theorem dX2_rebuild_22 : decode cX2_rebuild 22 = .ok (.aload_n 0, 1) := by decide +kernel
theorem dX2_rebuild_23 : decode cX2_rebuild 23 = .ok (.getfield 33, 3) := by decide +kernel
theorem dX2_rebuild_26 : decode cX2_rebuild 26 = .ok (.istore_n 1, 1) := by decide +kernel
theorem dX2_rebuild_27 : decode cX2_rebuild 27 = .ok (.aload_n 0, 1) := by decide +kernel
theorem dX2_rebuild_28 : decode cX2_rebuild 28 = .ok (.iload_n 1, 1) := by decide +kernel
theorem dX2_rebuild_29 : decode cX2_rebuild 29 = .ok (.invokevirtual 142, 3) := by decide +kernel
theorem dX2_rebuild_32 : decode cX2_rebuild 32 = .ok (.aload_n 0, 1) := by decide +kernel
theorem dX2_rebuild_33 : decode cX2_rebuild 33 = .ok (.iload_n 1, 1) := by decide +kernel
theorem dX2_rebuild_34 : decode cX2_rebuild 34 = .ok (.invokevirtual 145, 3) := by decide +kernel
theorem dX2_rebuild_37 : decode cX2_rebuild 37 = .ok (.aload_n 0, 1) := by decide +kernel
theorem dX2_rebuild_38 : decode cX2_rebuild 38 = .ok (.getfield 11, 3) := by decide +kernel
theorem dX2_rebuild_41 : decode cX2_rebuild 41 = .ok (.iload_n 1, 1) := by decide +kernel
theorem dX2_rebuild_42 : decode cX2_rebuild 42 = .ok (.aaload, 1) := by decide +kernel
theorem dX2_rebuild_43 : decode cX2_rebuild 43 = .ok (.aload_n 0, 1) := by decide +kernel
theorem dX2_rebuild_44 : decode cX2_rebuild 44 = .ok (.getfield 18, 3) := by decide +kernel
theorem dX2_rebuild_47 : decode cX2_rebuild 47 = .ok (.invokevirtual 148, 3) := by decide +kernel
theorem dX2_rebuild_50 : decode cX2_rebuild 50 = .ok (.aload_n 0, 1) := by decide +kernel
theorem dX2_rebuild_51 : decode cX2_rebuild 51 = .ok (.iconst (-1), 1) := by decide +kernel
theorem dX2_rebuild_52 : decode cX2_rebuild 52 = .ok (.putfield 33, 3) := by decide +kernel
theorem dX2_rebuild_55 : decode cX2_rebuild 55 = .ok (.iload_n 1, 1) := by decide +kernel
theorem dX2_rebuild_56 : decode cX2_rebuild 56 = .ok (.ireturn, 1) := by decide +kernel
set_option maxRecDepth 20000 in
theorem ggX2_crash_X2_checkServing : GoodIn wsX2_crash wsX2_checkServing := goodIn_ca (goodIn_r _ [9, 10, 11, 12, 13, 20, 21, 22, 23, 24, 25, 26, 27, 28, 29] (by decide +kernel) (by decide +kernel)) (goodIn_sub (fun _ h => List.mem_cons_of_mem _ (List.mem_append_right _ h)) (by decide +kernel))
set_option maxRecDepth 20000 in
theorem gX2_crash_X2_checkServing : GoodIn wsX2_crash (wsV RX2 72 RX2 yX2_checkServing wsX2_checkServing) := goodIn_app (goodIn_of _ (by decide +kernel)) ggX2_crash_X2_checkServing
set_option maxRecDepth 20000 in
theorem ggX2_crash_X2_absentDisk : GoodIn wsX2_crash wsX2_absentDisk := goodIn_r _ [17, 18, 19, 20, 21, 22, 23, 24, 25, 26, 27, 28, 29] (by decide +kernel) (by decide +kernel)
set_option maxRecDepth 20000 in
theorem gX2_crash_X2_absentDisk : GoodIn wsX2_crash (wsV RX2 105 RX2 yX2_absentDisk wsX2_absentDisk) := goodIn_app (goodIn_of _ (by decide +kernel)) ggX2_crash_X2_absentDisk
theorem dX2_crash_0 : decode cX2_crash 0 = .ok (.aload_n 0, 1) := by decide +kernel
theorem dX2_crash_1 : decode cX2_crash 1 = .ok (.invokevirtual 72, 3) := by decide +kernel
theorem dX2_crash_4 : decode cX2_crash 4 = .ok (.iload_n 1, 1) := by decide +kernel
theorem dX2_crash_5 : decode cX2_crash 5 = .ok (.iconst 1, 1) := by decide +kernel
theorem dX2_crash_6 : decode cX2_crash 6 = .ok (.if_icmp .lt 11, 3) := by decide +kernel
theorem dX2_crash_9 : decode cX2_crash 9 = .ok (.aload_n 0, 1) := by decide +kernel
theorem dX2_crash_10 : decode cX2_crash 10 = .ok (.invokevirtual 105, 3) := by decide +kernel
theorem dX2_crash_13 : decode cX2_crash 13 = .ok (.iconst (-1), 1) := by decide +kernel
theorem dX2_crash_14 : decode cX2_crash 14 = .ok (.if_icmp .eq 13, 3) := by decide +kernel
theorem dX2_crash_17 : decode cX2_crash 17 = .ok (.new 37, 3) := by decide +kernel
theorem dX2_crash_20 : decode cX2_crash 20 = .ok (.dup, 1) := by decide +kernel
theorem dX2_crash_21 : decode cX2_crash 21 = .ok (.ldc 152, 2) := by decide +kernel
theorem dX2_crash_23 : decode cX2_crash 23 = .ok (.invokespecial 41, 3) := by decide +kernel
theorem dX2_crash_26 : decode cX2_crash 26 = .ok (.athrow, 1) := by decide +kernel
theorem dX2_crash_27 : decode cX2_crash 27 = .ok (.aload_n 0, 1) := by decide +kernel
theorem dX2_crash_28 : decode cX2_crash 28 = .ok (.iload_n 1, 1) := by decide +kernel
theorem dX2_crash_29 : decode cX2_crash 29 = .ok (.putfield 54, 3) := by decide +kernel
theorem dX2_crash_32 : decode cX2_crash 32 = .ok (.aload_n 0, 1) := by decide +kernel
theorem dX2_crash_33 : decode cX2_crash 33 = .ok (.iload_n 2, 1) := by decide +kernel
theorem dX2_crash_34 : decode cX2_crash 34 = .ok (.putfield 154, 3) := by decide +kernel
theorem dX2_crash_37 : decode cX2_crash 37 = .ok (.return_, 1) := by decide +kernel
set_option maxRecDepth 20000 in
theorem ggX2_start_X2_highestMarks : GoodIn wsX2_start wsX2_highestMarks := goodIn_r _ [9, 10, 11, 12, 13, 14, 15, 16, 17, 60, 61, 62, 63, 64, 65, 66, 67, 68, 69, 70, 71, 72, 73, 74, 75, 76, 77, 78, 79, 80, 81] (by decide +kernel) (by decide +kernel)
set_option maxRecDepth 20000 in
theorem gX2_start_X2_highestMarks : GoodIn wsX2_start (wsV RX2 162 RX2 yX2_highestMarks wsX2_highestMarks) := goodIn_app (goodIn_of _ (by decide +kernel)) ggX2_start_X2_highestMarks
set_option maxRecDepth 20000 in
theorem ggX2_start_X1_take : GoodIn wsX2_start wsX1_take := goodIn_r _ [22, 23, 24, 25, 26, 27, 70, 71, 72, 73, 74] (by decide +kernel) (by decide +kernel)
set_option maxRecDepth 20000 in
theorem gX2_start_X1_take : GoodIn wsX2_start (wsV RX2 166 RX1 yX1_take wsX1_take) := goodIn_app (goodIn_of _ (by decide +kernel)) ggX2_start_X1_take
set_option maxRecDepth 20000 in
theorem ggX2_start_X2_mendParity : GoodIn wsX2_start wsX2_mendParity := goodIn_r _ [31, 32, 33, 34, 8, 35, 4, 36, 37, 38, 39, 40, 41, 42, 43, 44, 45, 46, 10, 47, 48, 49, 50, 51, 52, 53, 14, 54, 55, 56, 57, 58, 59, 60, 61, 62, 63, 64, 65, 66, 67, 68, 69, 70, 71, 72, 73, 74, 75, 76, 77, 78, 79, 80, 81] (by decide +kernel) (by decide +kernel)
set_option maxRecDepth 20000 in
theorem gX2_start_X2_mendParity : GoodIn wsX2_start (wsV RX2 169 RX2 yX2_mendParity wsX2_mendParity) := goodIn_app (goodIn_of _ (by decide +kernel)) ggX2_start_X2_mendParity
theorem dX2_start_0 : decode cX2_start 0 = .ok (.aload_n 0, 1) := by decide +kernel
theorem dX2_start_1 : decode cX2_start 1 = .ok (.getfield 51, 3) := by decide +kernel
theorem dX2_start_4 : decode cX2_start 4 = .ok (.ifCond .ne 13, 3) := by decide +kernel
theorem dX2_start_7 : decode cX2_start 7 = .ok (.new 157, 3) := by decide +kernel
theorem dX2_start_10 : decode cX2_start 10 = .ok (.dup, 1) := by decide +kernel
theorem dX2_start_11 : decode cX2_start 11 = .ok (.ldc 159, 2) := by decide +kernel
theorem dX2_start_13 : decode cX2_start 13 = .ok (.invokespecial 161, 3) := by decide +kernel
theorem dX2_start_16 : decode cX2_start 16 = .ok (.athrow, 1) := by decide +kernel
theorem dX2_start_17 : decode cX2_start 17 = .ok (.aload_n 0, 1) := by decide +kernel
theorem dX2_start_18 : decode cX2_start 18 = .ok (.iconst 0, 1) := by decide +kernel
theorem dX2_start_19 : decode cX2_start 19 = .ok (.putfield 51, 3) := by decide +kernel
theorem dX2_start_22 : decode cX2_start 22 = .ok (.aload_n 0, 1) := by decide +kernel
theorem dX2_start_23 : decode cX2_start 23 = .ok (.getfield 18, 3) := by decide +kernel
theorem dX2_start_26 : decode cX2_start 26 = .ok (.aload_n 0, 1) := by decide +kernel
theorem dX2_start_27 : decode cX2_start 27 = .ok (.invokevirtual 162, 3) := by decide +kernel
theorem dX2_start_30 : decode cX2_start 30 = .ok (.invokevirtual 166, 3) := by decide +kernel
theorem dX2_start_33 : decode cX2_start 33 = .ok (.aload_n 0, 1) := by decide +kernel
theorem dX2_start_34 : decode cX2_start 34 = .ok (.invokevirtual 169, 3) := by decide +kernel
theorem dX2_start_37 : decode cX2_start 37 = .ok (.aload_n 0, 1) := by decide +kernel
theorem dX2_start_38 : decode cX2_start 38 = .ok (.getfield 18, 3) := by decide +kernel
theorem dX2_start_41 : decode cX2_start 41 = .ok (.getfield 102, 3) := by decide +kernel
theorem dX2_start_44 : decode cX2_start 44 = .ok (.ifCond .ne 5, 3) := by decide +kernel
theorem dX2_start_47 : decode cX2_start 47 = .ok (.iconst 0, 1) := by decide +kernel
theorem dX2_start_48 : decode cX2_start 48 = .ok (.ireturn, 1) := by decide +kernel
theorem dX2_start_49 : decode cX2_start 49 = .ok (.aload_n 0, 1) := by decide +kernel
theorem dX2_start_50 : decode cX2_start 50 = .ok (.getfield 18, 3) := by decide +kernel
theorem dX2_start_53 : decode cX2_start 53 = .ok (.getfield 113, 3) := by decide +kernel
theorem dX2_start_56 : decode cX2_start 56 = .ok (.ifCond .eq 7, 3) := by decide +kernel
theorem dX2_start_59 : decode cX2_start 59 = .ok (.iconst 2, 1) := by decide +kernel
theorem dX2_start_60 : decode cX2_start 60 = .ok (.goto 4, 3) := by decide +kernel
theorem dX2_start_63 : decode cX2_start 63 = .ok (.iconst 1, 1) := by decide +kernel
theorem dX2_start_64 : decode cX2_start 64 = .ok (.ireturn, 1) := by decide +kernel
set_option maxRecDepth 20000 in
theorem ggX2_good_X2_checkServing : GoodIn wsX2_good wsX2_checkServing := goodIn_ca (goodIn_r _ [9, 10, 11, 12, 13, 47, 48, 49, 50, 51, 52, 53, 54, 55, 56] (by decide +kernel) (by decide +kernel)) (goodIn_sub (fun _ h => List.mem_cons_of_mem _ (List.mem_append_right _ h)) (by decide +kernel))
set_option maxRecDepth 20000 in
theorem gX2_good_X2_checkServing : GoodIn wsX2_good (wsV RX2 72 RX2 yX2_checkServing wsX2_checkServing) := goodIn_app (goodIn_of _ (by decide +kernel)) ggX2_good_X2_checkServing
set_option maxRecDepth 20000 in
theorem ggX2_good_X2_absentDisk : GoodIn wsX2_good wsX2_absentDisk := goodIn_r _ [17, 18, 19, 47, 48, 49, 50, 51, 52, 53, 54, 55, 56] (by decide +kernel) (by decide +kernel)
set_option maxRecDepth 20000 in
theorem gX2_good_X2_absentDisk : GoodIn wsX2_good (wsV RX2 105 RX2 yX2_absentDisk wsX2_absentDisk) := goodIn_app (goodIn_of _ (by decide +kernel)) ggX2_good_X2_absentDisk
set_option maxRecDepth 20000 in
theorem ggX2_good_X2_isBeingLaid : GoodIn wsX2_good wsX2_isBeingLaid := goodIn_r _ [23, 24, 47, 48, 49, 50, 51, 52, 53, 54, 55, 56, 57, 58, 59, 60, 61] (by decide +kernel) (by decide +kernel)
set_option maxRecDepth 20000 in
theorem gX2_good_X2_isBeingLaid : GoodIn wsX2_good (wsV RX2 177 RX2 yX2_isBeingLaid wsX2_isBeingLaid) := goodIn_app (goodIn_of _ (by decide +kernel)) ggX2_good_X2_isBeingLaid
set_option maxRecDepth 20000 in
theorem ggX2_good_X2_isParityRight : GoodIn wsX2_good wsX2_isParityRight := goodIn_r _ [28, 29, 30, 31, 32, 8, 33, 24, 34, 35, 36, 37, 38, 39, 40, 41, 42, 43, 44, 45, 46, 47, 48, 49, 50, 51, 52, 53, 54, 55, 56, 57, 58, 59, 60, 61, 62, 63, 64, 65, 66, 67, 68] (by decide +kernel) (by decide +kernel)
set_option maxRecDepth 20000 in
theorem gX2_good_X2_isParityRight : GoodIn wsX2_good (wsV RX2 183 RX2 yX2_isParityRight wsX2_isParityRight) := goodIn_app (goodIn_of _ (by decide +kernel)) ggX2_good_X2_isParityRight
theorem dX2_good_0 : decode cX2_good 0 = .ok (.aload_n 0, 1) := by decide +kernel
theorem dX2_good_1 : decode cX2_good 1 = .ok (.invokevirtual 72, 3) := by decide +kernel
theorem dX2_good_4 : decode cX2_good 4 = .ok (.iload_n 1, 1) := by decide +kernel
theorem dX2_good_5 : decode cX2_good 5 = .ok (.ifCond .lt 9, 3) := by decide +kernel
theorem dX2_good_8 : decode cX2_good 8 = .ok (.iload_n 1, 1) := by decide +kernel
theorem dX2_good_9 : decode cX2_good 9 = .ok (.bipush 32, 2) := by decide +kernel
theorem dX2_good_11 : decode cX2_good 11 = .ok (.if_icmp .lt 13, 3) := by decide +kernel
theorem dX2_good_14 : decode cX2_good 14 = .ok (.new 172, 3) := by decide +kernel
theorem dX2_good_17 : decode cX2_good 17 = .ok (.dup, 1) := by decide +kernel
theorem dX2_good_18 : decode cX2_good 18 = .ok (.ldc 174, 2) := by decide +kernel
theorem dX2_good_20 : decode cX2_good 20 = .ok (.invokespecial 176, 3) := by decide +kernel
theorem dX2_good_23 : decode cX2_good 23 = .ok (.athrow, 1) := by decide +kernel
theorem dX2_good_24 : decode cX2_good 24 = .ok (.aload_n 0, 1) := by decide +kernel
theorem dX2_good_25 : decode cX2_good 25 = .ok (.invokevirtual 105, 3) := by decide +kernel
theorem dX2_good_28 : decode cX2_good 28 = .ok (.iconst (-1), 1) := by decide +kernel
theorem dX2_good_29 : decode cX2_good 29 = .ok (.if_icmp .ne 11, 3) := by decide +kernel
theorem dX2_good_32 : decode cX2_good 32 = .ok (.aload_n 0, 1) := by decide +kernel
theorem dX2_good_33 : decode cX2_good 33 = .ok (.iload_n 1, 1) := by decide +kernel
theorem dX2_good_34 : decode cX2_good 34 = .ok (.invokevirtual 177, 3) := by decide +kernel
theorem dX2_good_37 : decode cX2_good 37 = .ok (.ifCond .eq 13, 3) := by decide +kernel
theorem dX2_good_40 : decode cX2_good 40 = .ok (.new 37, 3) := by decide +kernel
theorem dX2_good_43 : decode cX2_good 43 = .ok (.dup, 1) := by decide +kernel
theorem dX2_good_44 : decode cX2_good 44 = .ok (.ldc 181, 2) := by decide +kernel
theorem dX2_good_46 : decode cX2_good 46 = .ok (.invokespecial 41, 3) := by decide +kernel
theorem dX2_good_49 : decode cX2_good 49 = .ok (.athrow, 1) := by decide +kernel
theorem dX2_good_50 : decode cX2_good 50 = .ok (.aload_n 0, 1) := by decide +kernel
theorem dX2_good_51 : decode cX2_good 51 = .ok (.iload_n 1, 1) := by decide +kernel
theorem dX2_good_52 : decode cX2_good 52 = .ok (.invokevirtual 183, 3) := by decide +kernel
theorem dX2_good_55 : decode cX2_good 55 = .ok (.ireturn, 1) := by decide +kernel
set_option maxRecDepth 20000 in
theorem ggX2_layout_X2_checkServing : GoodIn wsX2_layout wsX2_checkServing := goodIn_ca (goodIn_r _ [5, 6, 7, 8, 9, 29, 30, 31, 32, 33, 34, 35, 36, 37, 38] (by decide +kernel) (by decide +kernel)) (goodIn_sub (fun _ h => List.mem_cons_of_mem _ (List.mem_append_left _ (List.mem_append_right _ h))) (by decide +kernel))
set_option maxRecDepth 20000 in
theorem gX2_layout_X2_checkServing : GoodIn wsX2_layout (wsV RX2 72 RX2 yX2_checkServing wsX2_checkServing) := goodIn_app (goodIn_of _ (by decide +kernel)) ggX2_layout_X2_checkServing
set_option maxRecDepth 20000 in
theorem ggX2_layout_X2_checkWordOfBlock : GoodIn wsX2_layout wsX2_checkWordOfBlock := goodIn_ca (goodIn_r _ [13, 14, 15, 16, 17, 18, 4, 19, 20, 29, 30, 31, 32, 33, 34, 35, 36, 37, 38, 39, 40, 41, 42, 43] (by decide +kernel) (by decide +kernel)) (goodIn_sub (fun _ h => List.mem_cons_of_mem _ (List.mem_append_right _ h)) (by decide +kernel))
set_option maxRecDepth 20000 in
theorem gX2_layout_X2_checkWordOfBlock : GoodIn wsX2_layout (wsV RX2 75 RX2 yX2_checkWordOfBlock wsX2_checkWordOfBlock) := goodIn_app (goodIn_of _ (by decide +kernel)) ggX2_layout_X2_checkWordOfBlock
set_option maxRecDepth 20000 in
theorem ggX2_layout_X2_placeOf : GoodIn wsX2_layout wsX2_placeOf := goodIn_r _ [24, 20, 25, 26, 27, 4, 28, 29, 30, 31, 32, 33, 34, 35, 36, 37, 38, 39, 40, 41, 42, 43] (by decide +kernel) (by decide +kernel)
set_option maxRecDepth 20000 in
theorem gX2_layout_X2_placeOf : GoodIn wsX2_layout (wsV RX2 79 RX2 yX2_placeOf wsX2_placeOf) := goodIn_app (goodIn_of _ (by decide +kernel)) ggX2_layout_X2_placeOf
theorem dX2_layout_0 : decode cX2_layout 0 = .ok (.aload_n 0, 1) := by decide +kernel
theorem dX2_layout_1 : decode cX2_layout 1 = .ok (.invokevirtual 72, 3) := by decide +kernel
theorem dX2_layout_4 : decode cX2_layout 4 = .ok (.aload_n 0, 1) := by decide +kernel
theorem dX2_layout_5 : decode cX2_layout 5 = .ok (.iload_n 1, 1) := by decide +kernel
theorem dX2_layout_6 : decode cX2_layout 6 = .ok (.iconst 0, 1) := by decide +kernel
theorem dX2_layout_7 : decode cX2_layout 7 = .ok (.invokevirtual 75, 3) := by decide +kernel
theorem dX2_layout_10 : decode cX2_layout 10 = .ok (.aload_n 0, 1) := by decide +kernel
theorem dX2_layout_11 : decode cX2_layout 11 = .ok (.iload_n 1, 1) := by decide +kernel
theorem dX2_layout_12 : decode cX2_layout 12 = .ok (.invokevirtual 79, 3) := by decide +kernel
theorem dX2_layout_15 : decode cX2_layout 15 = .ok (.ireturn, 1) := by decide +kernel
set_option maxRecDepth 20000 in
theorem ggX2_cell_X2_checkServing : GoodIn wsX2_cell wsX2_checkServing := goodIn_ca (goodIn_r _ [8, 9, 10, 11, 12, 28, 29, 30, 31, 32, 33, 34, 35, 36, 37] (by decide +kernel) (by decide +kernel)) (goodIn_sub (fun _ h => List.mem_cons_of_mem _ (List.mem_append_right _ h)) (by decide +kernel))
set_option maxRecDepth 20000 in
theorem gX2_cell_X2_checkServing : GoodIn wsX2_cell (wsV RX2 72 RX2 yX2_checkServing wsX2_checkServing) := goodIn_app (goodIn_of _ (by decide +kernel)) ggX2_cell_X2_checkServing
set_option maxRecDepth 20000 in
theorem ggX2_cell_X2_checkDisk : GoodIn wsX2_cell wsX2_checkDisk := goodIn_ca (goodIn_r _ [16, 1, 2, 17, 18, 19, 7, 20, 21, 28, 29, 30, 31, 32, 33, 34, 35, 36, 37, 38, 39, 40, 41, 42] (by decide +kernel) (by decide +kernel)) (goodIn_sub (fun _ h => List.mem_cons_of_mem _ (List.mem_append_left _ (List.mem_append_right _ h))) (by decide +kernel))
set_option maxRecDepth 20000 in
theorem gX2_cell_X2_checkDisk : GoodIn wsX2_cell (wsV RX2 133 RX2 yX2_checkDisk wsX2_checkDisk) := goodIn_app (goodIn_of _ (by decide +kernel)) ggX2_cell_X2_checkDisk
set_option maxRecDepth 20000 in
theorem ggX2_cell_X0_word : GoodIn wsX2_cell wsX0_word := goodIn_r _ [26, 27, 43, 44, 45, 46, 47, 48, 49] (by decide +kernel) (by decide +kernel)
set_option maxRecDepth 20000 in
theorem gX2_cell_X0_word : GoodIn wsX2_cell (wsV RX2 188 RX0 yX0_word wsX0_word) := goodIn_app (goodIn_of _ (by decide +kernel)) ggX2_cell_X0_word
theorem dX2_cell_0 : decode cX2_cell 0 = .ok (.aload_n 0, 1) := by decide +kernel
theorem dX2_cell_1 : decode cX2_cell 1 = .ok (.invokevirtual 72, 3) := by decide +kernel
theorem dX2_cell_4 : decode cX2_cell 4 = .ok (.aload_n 0, 1) := by decide +kernel
theorem dX2_cell_5 : decode cX2_cell 5 = .ok (.iload_n 1, 1) := by decide +kernel
theorem dX2_cell_6 : decode cX2_cell 6 = .ok (.invokevirtual 133, 3) := by decide +kernel
theorem dX2_cell_9 : decode cX2_cell 9 = .ok (.iload_n 2, 1) := by decide +kernel
theorem dX2_cell_10 : decode cX2_cell 10 = .ok (.ifCond .lt 18, 3) := by decide +kernel
theorem dX2_cell_13 : decode cX2_cell 13 = .ok (.iload_n 2, 1) := by decide +kernel
theorem dX2_cell_14 : decode cX2_cell 14 = .ok (.bipush 40, 2) := by decide +kernel
theorem dX2_cell_16 : decode cX2_cell 16 = .ok (.if_icmp .ge 12, 3) := by decide +kernel
theorem dX2_cell_19 : decode cX2_cell 19 = .ok (.iload_n 3, 1) := by decide +kernel
theorem dX2_cell_20 : decode cX2_cell 20 = .ok (.ifCond .lt 8, 3) := by decide +kernel
theorem dX2_cell_23 : decode cX2_cell 23 = .ok (.iload_n 3, 1) := by decide +kernel
theorem dX2_cell_24 : decode cX2_cell 24 = .ok (.iconst 4, 1) := by decide +kernel
theorem dX2_cell_25 : decode cX2_cell 25 = .ok (.if_icmp .lt 13, 3) := by decide +kernel
theorem dX2_cell_28 : decode cX2_cell 28 = .ok (.new 172, 3) := by decide +kernel
theorem dX2_cell_31 : decode cX2_cell 31 = .ok (.dup, 1) := by decide +kernel
theorem dX2_cell_32 : decode cX2_cell 32 = .ok (.ldc 186, 2) := by decide +kernel
theorem dX2_cell_34 : decode cX2_cell 34 = .ok (.invokespecial 176, 3) := by decide +kernel
theorem dX2_cell_37 : decode cX2_cell 37 = .ok (.athrow, 1) := by decide +kernel
theorem dX2_cell_38 : decode cX2_cell 38 = .ok (.aload_n 0, 1) := by decide +kernel
theorem dX2_cell_39 : decode cX2_cell 39 = .ok (.getfield 11, 3) := by decide +kernel
theorem dX2_cell_42 : decode cX2_cell 42 = .ok (.iload_n 1, 1) := by decide +kernel
theorem dX2_cell_43 : decode cX2_cell 43 = .ok (.aaload, 1) := by decide +kernel
theorem dX2_cell_44 : decode cX2_cell 44 = .ok (.iload_n 2, 1) := by decide +kernel
theorem dX2_cell_45 : decode cX2_cell 45 = .ok (.iload_n 3, 1) := by decide +kernel
theorem dX2_cell_46 : decode cX2_cell 46 = .ok (.invokevirtual 188, 3) := by decide +kernel
theorem dX2_cell_49 : decode cX2_cell 49 = .ok (.ireturn, 1) := by decide +kernel
set_option maxRecDepth 20000 in
theorem ggX2_marks_X2_checkServing : GoodIn wsX2_marks wsX2_checkServing := goodIn_ca (goodIn_r _ [8, 9, 10, 11, 12, 29, 30, 31, 32, 33, 34, 35, 36, 37, 38] (by decide +kernel) (by decide +kernel)) (goodIn_sub (fun _ h => List.mem_cons_of_mem _ (List.mem_append_right _ h)) (by decide +kernel))
set_option maxRecDepth 20000 in
theorem gX2_marks_X2_checkServing : GoodIn wsX2_marks (wsV RX2 72 RX2 yX2_checkServing wsX2_checkServing) := goodIn_app (goodIn_of _ (by decide +kernel)) ggX2_marks_X2_checkServing
set_option maxRecDepth 20000 in
theorem ggX2_marks_X2_checkDisk : GoodIn wsX2_marks wsX2_checkDisk := goodIn_ca (goodIn_r _ [16, 1, 2, 17, 18, 19, 7, 20, 21, 29, 30, 31, 32, 33, 34, 35, 36, 37, 38, 39, 40, 41, 42, 43] (by decide +kernel) (by decide +kernel)) (goodIn_sub (fun _ h => List.mem_cons_of_mem _ (List.mem_append_left _ (List.mem_append_right _ h))) (by decide +kernel))
set_option maxRecDepth 20000 in
theorem gX2_marks_X2_checkDisk : GoodIn wsX2_marks (wsV RX2 133 RX2 yX2_checkDisk wsX2_checkDisk) := goodIn_app (goodIn_of _ (by decide +kernel)) ggX2_marks_X2_checkDisk
set_option maxRecDepth 20000 in
theorem ggX2_marks_X0_marksIn : GoodIn wsX2_marks wsX0_marksIn := goodIn_r _ [26, 27, 28, 44, 45, 46, 47, 48, 49, 50] (by decide +kernel) (by decide +kernel)
set_option maxRecDepth 20000 in
theorem gX2_marks_X0_marksIn : GoodIn wsX2_marks (wsV RX2 193 RX0 yX0_marksIn wsX0_marksIn) := goodIn_app (goodIn_of _ (by decide +kernel)) ggX2_marks_X0_marksIn
theorem dX2_marks_0 : decode cX2_marks 0 = .ok (.aload_n 0, 1) := by decide +kernel
theorem dX2_marks_1 : decode cX2_marks 1 = .ok (.invokevirtual 72, 3) := by decide +kernel
theorem dX2_marks_4 : decode cX2_marks 4 = .ok (.aload_n 0, 1) := by decide +kernel
theorem dX2_marks_5 : decode cX2_marks 5 = .ok (.iload_n 1, 1) := by decide +kernel
theorem dX2_marks_6 : decode cX2_marks 6 = .ok (.invokevirtual 133, 3) := by decide +kernel
theorem dX2_marks_9 : decode cX2_marks 9 = .ok (.iload_n 2, 1) := by decide +kernel
theorem dX2_marks_10 : decode cX2_marks 10 = .ok (.ifCond .eq 18, 3) := by decide +kernel
theorem dX2_marks_13 : decode cX2_marks 13 = .ok (.iload_n 2, 1) := by decide +kernel
theorem dX2_marks_14 : decode cX2_marks 14 = .ok (.iconst 1, 1) := by decide +kernel
theorem dX2_marks_15 : decode cX2_marks 15 = .ok (.if_icmp .eq 13, 3) := by decide +kernel
theorem dX2_marks_18 : decode cX2_marks 18 = .ok (.new 172, 3) := by decide +kernel
theorem dX2_marks_21 : decode cX2_marks 21 = .ok (.dup, 1) := by decide +kernel
theorem dX2_marks_22 : decode cX2_marks 22 = .ok (.ldc 191, 2) := by decide +kernel
theorem dX2_marks_24 : decode cX2_marks 24 = .ok (.invokespecial 176, 3) := by decide +kernel
theorem dX2_marks_27 : decode cX2_marks 27 = .ok (.athrow, 1) := by decide +kernel
theorem dX2_marks_28 : decode cX2_marks 28 = .ok (.aload_n 0, 1) := by decide +kernel
theorem dX2_marks_29 : decode cX2_marks 29 = .ok (.getfield 11, 3) := by decide +kernel
theorem dX2_marks_32 : decode cX2_marks 32 = .ok (.iload_n 1, 1) := by decide +kernel
theorem dX2_marks_33 : decode cX2_marks 33 = .ok (.aaload, 1) := by decide +kernel
theorem dX2_marks_34 : decode cX2_marks 34 = .ok (.iload_n 2, 1) := by decide +kernel
theorem dX2_marks_35 : decode cX2_marks 35 = .ok (.invokevirtual 193, 3) := by decide +kernel
theorem dX2_marks_38 : decode cX2_marks 38 = .ok (.getfield 197, 3) := by decide +kernel
theorem dX2_marks_41 : decode cX2_marks 41 = .ok (.ireturn, 1) := by decide +kernel
set_option maxRecDepth 20000 in
theorem ggX2_count_X2_diskCount : GoodIn wsX2_count wsX2_diskCount := goodIn_r _ [10, 3, 15, 16, 17, 18, 19, 20, 21, 22, 23, 24, 25, 26, 27, 28, 29] (by decide +kernel) (by decide +kernel)
set_option maxRecDepth 20000 in
theorem gX2_count_X2_diskCount : GoodIn wsX2_count (wsV RX2 116 RX2 yX2_diskCount wsX2_diskCount) := goodIn_app (goodIn_of _ (by decide +kernel)) ggX2_count_X2_diskCount
set_option maxRecDepth 20000 in
theorem ggX2_count_X2_capacity : GoodIn wsX2_count wsX2_capacity := goodIn_r _ [14, 3, 15, 16, 17, 18, 19, 20, 21, 22, 23, 24, 25, 26, 27, 28, 29] (by decide +kernel) (by decide +kernel)
set_option maxRecDepth 20000 in
theorem gX2_count_X2_capacity : GoodIn wsX2_count (wsV RX2 68 RX2 yX2_capacity wsX2_capacity) := goodIn_app (goodIn_of _ (by decide +kernel)) ggX2_count_X2_capacity
theorem dX2_count_0 : decode cX2_count 0 = .ok (.iload_n 1, 1) := by decide +kernel
theorem dX2_count_1 : decode cX2_count 1 = .ok (.bipush 7, 2) := by decide +kernel
theorem dX2_count_3 : decode cX2_count 3 = .ok (.if_icmp .ne 16, 3) := by decide +kernel
theorem dX2_count_6 : decode cX2_count 6 = .ok (.aload_n 0, 1) := by decide +kernel
theorem dX2_count_7 : decode cX2_count 7 = .ok (.getfield 51, 3) := by decide +kernel
theorem dX2_count_10 : decode cX2_count 10 = .ok (.ifCond .eq 7, 3) := by decide +kernel
theorem dX2_count_13 : decode cX2_count 13 = .ok (.iconst 1, 1) := by decide +kernel
theorem dX2_count_14 : decode cX2_count 14 = .ok (.goto 4, 3) := by decide +kernel
theorem dX2_count_17 : decode cX2_count 17 = .ok (.iconst 0, 1) := by decide +kernel
theorem dX2_count_18 : decode cX2_count 18 = .ok (.ireturn, 1) := by decide +kernel
theorem dX2_count_19 : decode cX2_count 19 = .ok (.aload_n 0, 1) := by decide +kernel
theorem dX2_count_20 : decode cX2_count 20 = .ok (.getfield 47, 3) := by decide +kernel
theorem dX2_count_23 : decode cX2_count 23 = .ok (.ifCond .eq 10, 3) := by decide +kernel
theorem dX2_count_26 : decode cX2_count 26 = .ok (.aload_n 0, 1) := by decide +kernel
theorem dX2_count_27 : decode cX2_count 27 = .ok (.getfield 51, 3) := by decide +kernel
theorem dX2_count_30 : decode cX2_count 30 = .ok (.ifCond .eq 5, 3) := by decide +kernel
theorem dX2_count_33 : decode cX2_count 33 = .ok (.iconst (-1), 1) := by decide +kernel
theorem dX2_count_34 : decode cX2_count 34 = .ok (.ireturn, 1) := by decide +kernel
theorem dX2_count_35 : decode cX2_count 35 = .ok (.iload_n 1, 1) := by decide +kernel
theorem dX2_count_36 : decode cX2_count 36 = .ok (.tableswitch 104 0 6 #[44, 49, 54, 62, 78, 94, 99], 44) := by decide +kernel
theorem dX2_count_80 : decode cX2_count 80 = .ok (.aload_n 0, 1) := by decide +kernel
theorem dX2_count_81 : decode cX2_count 81 = .ok (.invokevirtual 116, 3) := by decide +kernel
theorem dX2_count_84 : decode cX2_count 84 = .ok (.ireturn, 1) := by decide +kernel
theorem dX2_count_85 : decode cX2_count 85 = .ok (.aload_n 0, 1) := by decide +kernel
theorem dX2_count_86 : decode cX2_count 86 = .ok (.invokevirtual 68, 3) := by decide +kernel
theorem dX2_count_89 : decode cX2_count 89 = .ok (.ireturn, 1) := by decide +kernel
theorem dX2_count_90 : decode cX2_count 90 = .ok (.aload_n 0, 1) := by decide +kernel
theorem dX2_count_91 : decode cX2_count 91 = .ok (.getfield 18, 3) := by decide +kernel
theorem dX2_count_94 : decode cX2_count 94 = .ok (.getfield 110, 3) := by decide +kernel
theorem dX2_count_97 : decode cX2_count 97 = .ok (.ireturn, 1) := by decide +kernel
theorem dX2_count_98 : decode cX2_count 98 = .ok (.aload_n 0, 1) := by decide +kernel
theorem dX2_count_99 : decode cX2_count 99 = .ok (.getfield 18, 3) := by decide +kernel
theorem dX2_count_102 : decode cX2_count 102 = .ok (.getfield 102, 3) := by decide +kernel
theorem dX2_count_105 : decode cX2_count 105 = .ok (.ifCond .eq 7, 3) := by decide +kernel
theorem dX2_count_108 : decode cX2_count 108 = .ok (.iconst 1, 1) := by decide +kernel
theorem dX2_count_109 : decode cX2_count 109 = .ok (.goto 4, 3) := by decide +kernel
theorem dX2_count_112 : decode cX2_count 112 = .ok (.iconst 0, 1) := by decide +kernel
theorem dX2_count_113 : decode cX2_count 113 = .ok (.ireturn, 1) := by decide +kernel
theorem dX2_count_114 : decode cX2_count 114 = .ok (.aload_n 0, 1) := by decide +kernel
theorem dX2_count_115 : decode cX2_count 115 = .ok (.getfield 18, 3) := by decide +kernel
theorem dX2_count_118 : decode cX2_count 118 = .ok (.getfield 113, 3) := by decide +kernel
theorem dX2_count_121 : decode cX2_count 121 = .ok (.ifCond .eq 7, 3) := by decide +kernel
theorem dX2_count_124 : decode cX2_count 124 = .ok (.iconst 1, 1) := by decide +kernel
theorem dX2_count_125 : decode cX2_count 125 = .ok (.goto 4, 3) := by decide +kernel
theorem dX2_count_128 : decode cX2_count 128 = .ok (.iconst 0, 1) := by decide +kernel
theorem dX2_count_129 : decode cX2_count 129 = .ok (.ireturn, 1) := by decide +kernel
theorem dX2_count_130 : decode cX2_count 130 = .ok (.aload_n 0, 1) := by decide +kernel
theorem dX2_count_131 : decode cX2_count 131 = .ok (.getfield 29, 3) := by decide +kernel
theorem dX2_count_134 : decode cX2_count 134 = .ok (.ireturn, 1) := by decide +kernel
theorem dX2_count_135 : decode cX2_count 135 = .ok (.aload_n 0, 1) := by decide +kernel
theorem dX2_count_136 : decode cX2_count 136 = .ok (.getfield 33, 3) := by decide +kernel
theorem dX2_count_139 : decode cX2_count 139 = .ok (.ireturn, 1) := by decide +kernel
theorem dX2_count_140 : decode cX2_count 140 = .ok (.iconst (-1), 1) := by decide +kernel
theorem dX2_count_141 : decode cX2_count 141 = .ok (.ireturn, 1) := by decide +kernel
theorem dX2_checkServing_0 : decode cX2_checkServing 0 = .ok (.aload_n 0, 1) := by decide +kernel
theorem dX2_checkServing_1 : decode cX2_checkServing 1 = .ok (.getfield 47, 3) := by decide +kernel
theorem dX2_checkServing_4 : decode cX2_checkServing 4 = .ok (.ifCond .eq 10, 3) := by decide +kernel
theorem dX2_checkServing_7 : decode cX2_checkServing 7 = .ok (.aload_n 0, 1) := by decide +kernel
theorem dX2_checkServing_8 : decode cX2_checkServing 8 = .ok (.getfield 51, 3) := by decide +kernel
theorem dX2_checkServing_11 : decode cX2_checkServing 11 = .ok (.ifCond .eq 13, 3) := by decide +kernel
theorem dX2_checkServing_14 : decode cX2_checkServing 14 = .ok (.new 157, 3) := by decide +kernel
theorem dX2_checkServing_17 : decode cX2_checkServing 17 = .ok (.dup, 1) := by decide +kernel
theorem dX2_checkServing_18 : decode cX2_checkServing 18 = .ok (.ldc 200, 2) := by decide +kernel
theorem dX2_checkServing_20 : decode cX2_checkServing 20 = .ok (.invokespecial 161, 3) := by decide +kernel
theorem dX2_checkServing_23 : decode cX2_checkServing 23 = .ok (.athrow, 1) := by decide +kernel
theorem dX2_checkServing_24 : decode cX2_checkServing 24 = .ok (.return_, 1) := by decide +kernel
set_option maxRecDepth 20000 in
theorem ggX2_checkWordOfBlock_X2_capacity : GoodIn wsX2_checkWordOfBlock wsX2_capacity := goodIn_r _ [7, 8, 9, 10, 11, 12, 13, 14, 15, 16, 17, 18, 19, 20, 21, 22, 23] (by decide +kernel) (by decide +kernel)
set_option maxRecDepth 20000 in
theorem gX2_checkWordOfBlock_X2_capacity : GoodIn wsX2_checkWordOfBlock (wsV RX2 68 RX2 yX2_capacity wsX2_capacity) := goodIn_app (goodIn_of _ (by decide +kernel)) ggX2_checkWordOfBlock_X2_capacity
theorem dX2_checkWordOfBlock_0 : decode cX2_checkWordOfBlock 0 = .ok (.iload_n 1, 1) := by decide +kernel
theorem dX2_checkWordOfBlock_1 : decode cX2_checkWordOfBlock 1 = .ok (.ifCond .lt 20, 3) := by decide +kernel
theorem dX2_checkWordOfBlock_4 : decode cX2_checkWordOfBlock 4 = .ok (.iload_n 1, 1) := by decide +kernel
theorem dX2_checkWordOfBlock_5 : decode cX2_checkWordOfBlock 5 = .ok (.aload_n 0, 1) := by decide +kernel
theorem dX2_checkWordOfBlock_6 : decode cX2_checkWordOfBlock 6 = .ok (.invokevirtual 68, 3) := by decide +kernel
theorem dX2_checkWordOfBlock_9 : decode cX2_checkWordOfBlock 9 = .ok (.if_icmp .ge 12, 3) := by decide +kernel
theorem dX2_checkWordOfBlock_12 : decode cX2_checkWordOfBlock 12 = .ok (.iload_n 2, 1) := by decide +kernel
theorem dX2_checkWordOfBlock_13 : decode cX2_checkWordOfBlock 13 = .ok (.ifCond .lt 8, 3) := by decide +kernel
theorem dX2_checkWordOfBlock_16 : decode cX2_checkWordOfBlock 16 = .ok (.iload_n 2, 1) := by decide +kernel
theorem dX2_checkWordOfBlock_17 : decode cX2_checkWordOfBlock 17 = .ok (.iconst 4, 1) := by decide +kernel
theorem dX2_checkWordOfBlock_18 : decode cX2_checkWordOfBlock 18 = .ok (.if_icmp .lt 13, 3) := by decide +kernel
theorem dX2_checkWordOfBlock_21 : decode cX2_checkWordOfBlock 21 = .ok (.new 172, 3) := by decide +kernel
theorem dX2_checkWordOfBlock_24 : decode cX2_checkWordOfBlock 24 = .ok (.dup, 1) := by decide +kernel
theorem dX2_checkWordOfBlock_25 : decode cX2_checkWordOfBlock 25 = .ok (.ldc 202, 2) := by decide +kernel
theorem dX2_checkWordOfBlock_27 : decode cX2_checkWordOfBlock 27 = .ok (.invokespecial 176, 3) := by decide +kernel
theorem dX2_checkWordOfBlock_30 : decode cX2_checkWordOfBlock 30 = .ok (.athrow, 1) := by decide +kernel
theorem dX2_checkWordOfBlock_31 : decode cX2_checkWordOfBlock 31 = .ok (.return_, 1) := by decide +kernel
set_option maxRecDepth 20000 in
theorem ggX2_checkDisk_X2_diskCount : GoodIn wsX2_checkDisk wsX2_diskCount := goodIn_r _ [7, 8, 9, 10, 11, 12, 13, 14, 15, 16, 17, 18, 19, 20, 21, 22, 23] (by decide +kernel) (by decide +kernel)
set_option maxRecDepth 20000 in
theorem gX2_checkDisk_X2_diskCount : GoodIn wsX2_checkDisk (wsV RX2 116 RX2 yX2_diskCount wsX2_diskCount) := goodIn_app (goodIn_of _ (by decide +kernel)) ggX2_checkDisk_X2_diskCount
theorem dX2_checkDisk_0 : decode cX2_checkDisk 0 = .ok (.iload_n 1, 1) := by decide +kernel
theorem dX2_checkDisk_1 : decode cX2_checkDisk 1 = .ok (.ifCond .lt 11, 3) := by decide +kernel
theorem dX2_checkDisk_4 : decode cX2_checkDisk 4 = .ok (.iload_n 1, 1) := by decide +kernel
theorem dX2_checkDisk_5 : decode cX2_checkDisk 5 = .ok (.aload_n 0, 1) := by decide +kernel
theorem dX2_checkDisk_6 : decode cX2_checkDisk 6 = .ok (.invokevirtual 116, 3) := by decide +kernel
theorem dX2_checkDisk_9 : decode cX2_checkDisk 9 = .ok (.if_icmp .lt 13, 3) := by decide +kernel
theorem dX2_checkDisk_12 : decode cX2_checkDisk 12 = .ok (.new 172, 3) := by decide +kernel
theorem dX2_checkDisk_15 : decode cX2_checkDisk 15 = .ok (.dup, 1) := by decide +kernel
theorem dX2_checkDisk_16 : decode cX2_checkDisk 16 = .ok (.ldc 204, 2) := by decide +kernel
theorem dX2_checkDisk_18 : decode cX2_checkDisk 18 = .ok (.invokespecial 176, 3) := by decide +kernel
theorem dX2_checkDisk_21 : decode cX2_checkDisk 21 = .ok (.athrow, 1) := by decide +kernel
theorem dX2_checkDisk_22 : decode cX2_checkDisk 22 = .ok (.return_, 1) := by decide +kernel
theorem dX2_checkPower_0 : decode cX2_checkPower 0 = .ok (.iload_n 1, 1) := by decide +kernel
theorem dX2_checkPower_1 : decode cX2_checkPower 1 = .ok (.ifCond .ne 13, 3) := by decide +kernel
theorem dX2_checkPower_4 : decode cX2_checkPower 4 = .ok (.new 206, 3) := by decide +kernel
theorem dX2_checkPower_7 : decode cX2_checkPower 7 = .ok (.dup, 1) := by decide +kernel
theorem dX2_checkPower_8 : decode cX2_checkPower 8 = .ok (.ldc 208, 2) := by decide +kernel
theorem dX2_checkPower_10 : decode cX2_checkPower 10 = .ok (.invokespecial 210, 3) := by decide +kernel
theorem dX2_checkPower_13 : decode cX2_checkPower 13 = .ok (.athrow, 1) := by decide +kernel
theorem dX2_checkPower_14 : decode cX2_checkPower 14 = .ok (.return_, 1) := by decide +kernel
