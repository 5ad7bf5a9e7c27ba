theorem dX2_layWindow_47 : decode cX2_layWindow 47 = .ok (.aload_n 0, 1) := by decide +kernel
theorem dX2_layWindow_48 : decode cX2_layWindow 48 = .ok (.getfield 22, 3) := by decide +kernel
theorem dX2_layWindow_51 : decode cX2_layWindow 51 = .ok (.iload_n 2, 1) := by decide +kernel
theorem dX2_layWindow_52 : decode cX2_layWindow 52 = .ok (.iconst 4, 1) := by decide +kernel
theorem dX2_layWindow_53 : decode cX2_layWindow 53 = .ok (.imul, 1) := by decide +kernel
theorem dX2_layWindow_54 : decode cX2_layWindow 54 = .ok (.invokevirtual 255, 3) := by decide +kernel
theorem dX2_layWindow_57 : decode cX2_layWindow 57 = .ok (.iinc 2 1, 3) := by decide +kernel
theorem dX2_layWindow_60 : decode cX2_layWindow 60 = .ok (.goto (-48), 3) := by decide +kernel
theorem dX2_layWindow_63 : decode cX2_layWindow 63 = .ok (.aload_n 0, 1) := by decide +kernel
theorem dX2_layWindow_64 : decode cX2_layWindow 64 = .ok (.iload_n 1, 1) := by decide +kernel
theorem dX2_layWindow_65 : decode cX2_layWindow 65 = .ok (.aload_n 0, 1) := by decide +kernel
theorem dX2_layWindow_66 : decode cX2_layWindow 66 = .ok (.getfield 18, 3) := by decide +kernel
theorem dX2_layWindow_69 : decode cX2_layWindow 69 = .ok (.getfield 110, 3) := by decide +kernel
theorem dX2_layWindow_72 : decode cX2_layWindow 72 = .ok (.invokevirtual 259, 3) := by decide +kernel
theorem dX2_layWindow_75 : decode cX2_layWindow 75 = .ok (.aload_n 0, 1) := by decide +kernel
theorem dX2_layWindow_76 : decode cX2_layWindow 76 = .ok (.invokevirtual 64, 3) := by decide +kernel
theorem dX2_layWindow_79 : decode cX2_layWindow 79 = .ok (.ireturn, 1) := by decide +kernel
set_option maxRecDepth 20000 in
theorem ggX2_markRowDone_X2_issueNewMarks : GoodIn wsX2_markRowDone wsX2_issueNewMarks := goodIn_r _ [6, 1, 7, 8, 9, 10, 5, 11, 12, 13, 14, 15, 16, 17, 18, 19, 20, 21, 22, 23, 24, 25, 26, 27, 28, 29, 67, 68, 69, 70, 71, 72, 73, 74, 75, 76, 77, 78, 79, 80, 81, 82, 83, 84, 85, 86, 87, 88] (by decide +kernel) (by decide +kernel)
set_option maxRecDepth 20000 in
theorem gX2_markRowDone_X2_issueNewMarks : GoodIn wsX2_markRowDone (wsV RX2 61 RX2 yX2_issueNewMarks wsX2_issueNewMarks) := goodIn_app (goodIn_of _ (by decide +kernel)) ggX2_markRowDone_X2_issueNewMarks
set_option maxRecDepth 20000 in
theorem ggX2_markRowDone_X2_awaitWrites : GoodIn wsX2_markRowDone wsX2_awaitWrites := goodIn_r _ [33, 34, 7, 35, 36, 37, 38, 5, 39, 40, 41, 42, 43, 44, 45, 46, 47, 48, 49, 15, 50, 17, 18, 19, 51, 52, 53, 54, 55, 56, 57, 58, 59, 60, 61, 62, 63, 64, 65, 66, 20, 21, 22, 23, 24, 25, 26, 27, 28, 29, 67, 68, 69, 70, 71, 72, 73, 74, 75, 76, 82, 83, 84, 85, 86, 87, 88, 77, 78, 79, 80, 81] (by decide +kernel) (by decide +kernel)
set_option maxRecDepth 20000 in
theorem gX2_markRowDone_X2_awaitWrites : GoodIn wsX2_markRowDone (wsV RX2 64 RX2 yX2_awaitWrites wsX2_awaitWrites) := goodIn_app (goodIn_of _ (by decide +kernel)) ggX2_markRowDone_X2_awaitWrites
theorem dX2_markRowDone_0 : decode cX2_markRowDone 0 = .ok (.aload_n 0, 1) := by decide +kernel
theorem dX2_markRowDone_1 : decode cX2_markRowDone 1 = .ok (.getfield 18, 3) := by decide +kernel
theorem dX2_markRowDone_4 : decode cX2_markRowDone 4 = .ok (.dup, 1) := by decide +kernel
theorem dX2_markRowDone_5 : decode cX2_markRowDone 5 = .ok (.getfield 110, 3) := by decide +kernel
theorem dX2_markRowDone_8 : decode cX2_markRowDone 8 = .ok (.iconst 1, 1) := by decide +kernel
theorem dX2_markRowDone_9 : decode cX2_markRowDone 9 = .ok (.iadd, 1) := by decide +kernel
theorem dX2_markRowDone_10 : decode cX2_markRowDone 10 = .ok (.putfield 110, 3) := by decide +kernel
theorem dX2_markRowDone_13 : decode cX2_markRowDone 13 = .ok (.aload_n 0, 1) := by decide +kernel
theorem dX2_markRowDone_14 : decode cX2_markRowDone 14 = .ok (.getfield 18, 3) := by decide +kernel
theorem dX2_markRowDone_17 : decode cX2_markRowDone 17 = .ok (.iconst 0, 1) := by decide +kernel
theorem dX2_markRowDone_18 : decode cX2_markRowDone 18 = .ok (.putfield 113, 3) := by decide +kernel
theorem dX2_markRowDone_21 : decode cX2_markRowDone 21 = .ok (.aload_n 0, 1) := by decide +kernel
theorem dX2_markRowDone_22 : decode cX2_markRowDone 22 = .ok (.getfield 18, 3) := by decide +kernel
theorem dX2_markRowDone_25 : decode cX2_markRowDone 25 = .ok (.getfield 110, 3) := by decide +kernel
theorem dX2_markRowDone_28 : decode cX2_markRowDone 28 = .ok (.bipush 32, 2) := by decide +kernel
theorem dX2_markRowDone_30 : decode cX2_markRowDone 30 = .ok (.if_icmp .ne 32, 3) := by decide +kernel
theorem dX2_markRowDone_33 : decode cX2_markRowDone 33 = .ok (.aload_n 0, 1) := by decide +kernel
theorem dX2_markRowDone_34 : decode cX2_markRowDone 34 = .ok (.getfield 18, 3) := by decide +kernel
theorem dX2_markRowDone_37 : decode cX2_markRowDone 37 = .ok (.dup, 1) := by decide +kernel
theorem dX2_markRowDone_38 : decode cX2_markRowDone 38 = .ok (.getfield 58, 3) := by decide +kernel
theorem dX2_markRowDone_41 : decode cX2_markRowDone 41 = .ok (.iconst 1, 1) := by decide +kernel
theorem dX2_markRowDone_42 : decode cX2_markRowDone 42 = .ok (.iadd, 1) := by decide +kernel
theorem dX2_markRowDone_43 : decode cX2_markRowDone 43 = .ok (.putfield 58, 3) := by decide +kernel
theorem dX2_markRowDone_46 : decode cX2_markRowDone 46 = .ok (.aload_n 0, 1) := by decide +kernel
theorem dX2_markRowDone_47 : decode cX2_markRowDone 47 = .ok (.getfield 18, 3) := by decide +kernel
theorem dX2_markRowDone_50 : decode cX2_markRowDone 50 = .ok (.iconst 0, 1) := by decide +kernel
theorem dX2_markRowDone_51 : decode cX2_markRowDone 51 = .ok (.putfield 102, 3) := by decide +kernel
theorem dX2_markRowDone_54 : decode cX2_markRowDone 54 = .ok (.aload_n 0, 1) := by decide +kernel
theorem dX2_markRowDone_55 : decode cX2_markRowDone 55 = .ok (.getfield 18, 3) := by decide +kernel
theorem dX2_markRowDone_58 : decode cX2_markRowDone 58 = .ok (.iconst 0, 1) := by decide +kernel
theorem dX2_markRowDone_59 : decode cX2_markRowDone 59 = .ok (.putfield 110, 3) := by decide +kernel
theorem dX2_markRowDone_62 : decode cX2_markRowDone 62 = .ok (.aload_n 0, 1) := by decide +kernel
theorem dX2_markRowDone_63 : decode cX2_markRowDone 63 = .ok (.invokevirtual 61, 3) := by decide +kernel
theorem dX2_markRowDone_66 : decode cX2_markRowDone 66 = .ok (.aload_n 0, 1) := by decide +kernel
theorem dX2_markRowDone_67 : decode cX2_markRowDone 67 = .ok (.invokevirtual 64, 3) := by decide +kernel
theorem dX2_markRowDone_70 : decode cX2_markRowDone 70 = .ok (.ireturn, 1) := by decide +kernel
set_option maxRecDepth 20000 in
theorem ggX2_rebuildDataRows_X2_widthOfRow : GoodIn wsX2_rebuildDataRows wsX2_widthOfRow := goodIn_r _ [5, 6, 30, 31, 32, 33, 34, 35, 36, 37, 38, 39, 40, 41, 42, 43, 44] (by decide +kernel) (by decide +kernel)
set_option maxRecDepth 20000 in
theorem gX2_rebuildDataRows_X2_widthOfRow : GoodIn wsX2_rebuildDataRows (wsV RX2 231 RX2 yX2_widthOfRow wsX2_widthOfRow) := goodIn_app (goodIn_of _ (by decide +kernel)) ggX2_rebuildDataRows_X2_widthOfRow
set_option maxRecDepth 20000 in
theorem ggX2_rebuildDataRows_X2_isBeingLaid : GoodIn wsX2_rebuildDataRows wsX2_isBeingLaid := goodIn_r _ [10, 6, 30, 31, 32, 33, 34, 35, 36, 37, 38, 39, 40, 41, 42, 43, 44] (by decide +kernel) (by decide +kernel)
set_option maxRecDepth 20000 in
theorem gX2_rebuildDataRows_X2_isBeingLaid : GoodIn wsX2_rebuildDataRows (wsV RX2 177 RX2 yX2_isBeingLaid wsX2_isBeingLaid) := goodIn_app (goodIn_of _ (by decide +kernel)) ggX2_rebuildDataRows_X2_isBeingLaid
set_option maxRecDepth 20000 in
theorem ggX2_rebuildDataRows_X2_setByTheRest : GoodIn wsX2_rebuildDataRows wsX2_setByTheRest := goodIn_r _ [14, 15, 16, 17, 18, 4, 19, 20, 21, 22, 23, 24, 25, 26, 27, 28, 29, 30, 31, 32, 33, 34, 35, 36, 37, 38, 39, 45, 46, 47, 48, 49, 50, 51] (by decide +kernel) (by decide +kernel)
set_option maxRecDepth 20000 in
theorem gX2_rebuildDataRows_X2_setByTheRest : GoodIn wsX2_rebuildDataRows (wsV RX2 262 RX2 yX2_setByTheRest wsX2_setByTheRest) := goodIn_app (goodIn_of _ (by decide +kernel)) ggX2_rebuildDataRows_X2_setByTheRest
theorem dX2_rebuildDataRows_0 : decode cX2_rebuildDataRows 0 = .ok (.iconst 0, 1) := by decide +kernel
theorem dX2_rebuildDataRows_1 : decode cX2_rebuildDataRows 1 = .ok (.istore_n 2, 1) := by decide +kernel
theorem dX2_rebuildDataRows_2 : decode cX2_rebuildDataRows 2 = .ok (.iload_n 2, 1) := by decide +kernel
theorem dX2_rebuildDataRows_3 : decode cX2_rebuildDataRows 3 = .ok (.bipush 32, 2) := by decide +kernel
theorem dX2_rebuildDataRows_5 : decode cX2_rebuildDataRows 5 = .ok (.if_icmp .ge 35, 3) := by decide +kernel
theorem dX2_rebuildDataRows_8 : decode cX2_rebuildDataRows 8 = .ok (.aload_n 0, 1) := by decide +kernel
theorem dX2_rebuildDataRows_9 : decode cX2_rebuildDataRows 9 = .ok (.iload_n 2, 1) := by decide +kernel
theorem dX2_rebuildDataRows_10 : decode cX2_rebuildDataRows 10 = .ok (.invokevirtual 231, 3) := by decide +kernel
theorem dX2_rebuildDataRows_13 : decode cX2_rebuildDataRows 13 = .ok (.istore_n 3, 1) := by decide +kernel
theorem dX2_rebuildDataRows_14 : decode cX2_rebuildDataRows 14 = .ok (.iload_n 1, 1) := by decide +kernel
theorem dX2_rebuildDataRows_15 : decode cX2_rebuildDataRows 15 = .ok (.iload_n 3, 1) := by decide +kernel
theorem dX2_rebuildDataRows_16 : decode cX2_rebuildDataRows 16 = .ok (.if_icmp .ge 18, 3) := by decide +kernel
theorem dX2_rebuildDataRows_19 : decode cX2_rebuildDataRows 19 = .ok (.aload_n 0, 1) := by decide +kernel
theorem dX2_rebuildDataRows_20 : decode cX2_rebuildDataRows 20 = .ok (.iload_n 2, 1) := by decide +kernel
theorem dX2_rebuildDataRows_21 : decode cX2_rebuildDataRows 21 = .ok (.invokevirtual 177, 3) := by decide +kernel
theorem dX2_rebuildDataRows_24 : decode cX2_rebuildDataRows 24 = .ok (.ifCond .ne 10, 3) := by decide +kernel
theorem dX2_rebuildDataRows_27 : decode cX2_rebuildDataRows 27 = .ok (.aload_n 0, 1) := by decide +kernel
theorem dX2_rebuildDataRows_28 : decode cX2_rebuildDataRows 28 = .ok (.iload_n 3, 1) := by decide +kernel
theorem dX2_rebuildDataRows_29 : decode cX2_rebuildDataRows 29 = .ok (.iload_n 2, 1) := by decide +kernel
theorem dX2_rebuildDataRows_30 : decode cX2_rebuildDataRows 30 = .ok (.iload_n 1, 1) := by decide +kernel
theorem dX2_rebuildDataRows_31 : decode cX2_rebuildDataRows 31 = .ok (.invokevirtual 262, 3) := by decide +kernel
theorem dX2_rebuildDataRows_34 : decode cX2_rebuildDataRows 34 = .ok (.iinc 2 1, 3) := by decide +kernel
theorem dX2_rebuildDataRows_37 : decode cX2_rebuildDataRows 37 = .ok (.goto (-35), 3) := by decide +kernel
theorem dX2_rebuildDataRows_40 : decode cX2_rebuildDataRows 40 = .ok (.return_, 1) := by decide +kernel
set_option maxRecDepth 20000 in
theorem ggX2_rebuildStash_X2_wordOfStash : GoodIn wsX2_rebuildStash wsX2_wordOfStash := goodIn_r _ [7, 1, 2, 8, 9, 10, 6, 11, 12, 13, 14, 15, 16, 17, 18, 19, 24, 25, 26, 27, 28, 29, 30, 31, 32, 33, 34, 35, 36, 37, 38, 39, 40, 41, 42, 43, 44, 45] (by decide +kernel) (by decide +kernel)
set_option maxRecDepth 20000 in
theorem gX2_rebuildStash_X2_wordOfStash : GoodIn wsX2_rebuildStash (wsV RX2 217 RX2 yX2_wordOfStash wsX2_wordOfStash) := goodIn_app (goodIn_of _ (by decide +kernel)) ggX2_rebuildStash_X2_wordOfStash
set_option maxRecDepth 20000 in
theorem ggX2_rebuildStash_X0_setWord : GoodIn wsX2_rebuildStash wsX0_setWord := goodIn_r _ [23, 19, 39, 40, 41, 42, 43, 44, 45] (by decide +kernel) (by decide +kernel)
set_option maxRecDepth 20000 in
theorem gX2_rebuildStash_X0_setWord : GoodIn wsX2_rebuildStash (wsV RX2 266 RX0 yX0_setWord wsX0_setWord) := goodIn_app (goodIn_of _ (by decide +kernel)) ggX2_rebuildStash_X0_setWord
theorem dX2_rebuildStash_0 : decode cX2_rebuildStash 0 = .ok (.aload_n 0, 1) := by decide +kernel
theorem dX2_rebuildStash_1 : decode cX2_rebuildStash 1 = .ok (.getfield 18, 3) := by decide +kernel
theorem dX2_rebuildStash_4 : decode cX2_rebuildStash 4 = .ok (.getfield 113, 3) := by decide +kernel
theorem dX2_rebuildStash_7 : decode cX2_rebuildStash 7 = .ok (.ifCond .eq 18, 3) := by decide +kernel
theorem dX2_rebuildStash_10 : decode cX2_rebuildStash 10 = .ok (.iload_n 1, 1) := by decide +kernel
theorem dX2_rebuildStash_11 : decode cX2_rebuildStash 11 = .ok (.ifCond .eq 15, 3) := by decide +kernel
theorem dX2_rebuildStash_14 : decode cX2_rebuildStash 14 = .ok (.iload_n 1, 1) := by decide +kernel
theorem dX2_rebuildStash_15 : decode cX2_rebuildStash 15 = .ok (.aload_n 0, 1) := by decide +kernel
theorem dX2_rebuildStash_16 : decode cX2_rebuildStash 16 = .ok (.getfield 18, 3) := by decide +kernel
theorem dX2_rebuildStash_19 : decode cX2_rebuildStash 19 = .ok (.getfield 58, 3) := by decide +kernel
theorem dX2_rebuildStash_22 : decode cX2_rebuildStash 22 = .ok (.if_icmp .eq 4, 3) := by decide +kernel
theorem dX2_rebuildStash_25 : decode cX2_rebuildStash 25 = .ok (.return_, 1) := by decide +kernel
theorem dX2_rebuildStash_26 : decode cX2_rebuildStash 26 = .ok (.iconst 0, 1) := by decide +kernel
theorem dX2_rebuildStash_27 : decode cX2_rebuildStash 27 = .ok (.istore_n 2, 1) := by decide +kernel
theorem dX2_rebuildStash_28 : decode cX2_rebuildStash 28 = .ok (.iload_n 2, 1) := by decide +kernel
theorem dX2_rebuildStash_29 : decode cX2_rebuildStash 29 = .ok (.aload_n 0, 1) := by decide +kernel
theorem dX2_rebuildStash_30 : decode cX2_rebuildStash 30 = .ok (.getfield 18, 3) := by decide +kernel
theorem dX2_rebuildStash_33 : decode cX2_rebuildStash 33 = .ok (.getfield 58, 3) := by decide +kernel
theorem dX2_rebuildStash_36 : decode cX2_rebuildStash 36 = .ok (.if_icmp .ge 42, 3) := by decide +kernel
theorem dX2_rebuildStash_39 : decode cX2_rebuildStash 39 = .ok (.iconst 0, 1) := by decide +kernel
theorem dX2_rebuildStash_40 : decode cX2_rebuildStash 40 = .ok (.istore_n 3, 1) := by decide +kernel
theorem dX2_rebuildStash_41 : decode cX2_rebuildStash 41 = .ok (.iload_n 3, 1) := by decide +kernel
theorem dX2_rebuildStash_42 : decode cX2_rebuildStash 42 = .ok (.iconst 4, 1) := by decide +kernel
theorem dX2_rebuildStash_43 : decode cX2_rebuildStash 43 = .ok (.if_icmp .ge 29, 3) := by decide +kernel
theorem dX2_rebuildStash_46 : decode cX2_rebuildStash 46 = .ok (.aload_n 0, 1) := by decide +kernel
theorem dX2_rebuildStash_47 : decode cX2_rebuildStash 47 = .ok (.getfield 11, 3) := by decide +kernel
theorem dX2_rebuildStash_50 : decode cX2_rebuildStash 50 = .ok (.iload_n 1, 1) := by decide +kernel
theorem dX2_rebuildStash_51 : decode cX2_rebuildStash 51 = .ok (.aaload, 1) := by decide +kernel
theorem dX2_rebuildStash_52 : decode cX2_rebuildStash 52 = .ok (.bipush 32, 2) := by decide +kernel
theorem dX2_rebuildStash_54 : decode cX2_rebuildStash 54 = .ok (.iload_n 2, 1) := by decide +kernel
theorem dX2_rebuildStash_55 : decode cX2_rebuildStash 55 = .ok (.iadd, 1) := by decide +kernel
theorem dX2_rebuildStash_56 : decode cX2_rebuildStash 56 = .ok (.iload_n 3, 1) := by decide +kernel
theorem dX2_rebuildStash_57 : decode cX2_rebuildStash 57 = .ok (.aload_n 0, 1) := by decide +kernel
theorem dX2_rebuildStash_58 : decode cX2_rebuildStash 58 = .ok (.iload_n 2, 1) := by decide +kernel
theorem dX2_rebuildStash_59 : decode cX2_rebuildStash 59 = .ok (.iload_n 3, 1) := by decide +kernel
theorem dX2_rebuildStash_60 : decode cX2_rebuildStash 60 = .ok (.invokevirtual 217, 3) := by decide +kernel
theorem dX2_rebuildStash_63 : decode cX2_rebuildStash 63 = .ok (.invokevirtual 266, 3) := by decide +kernel
theorem dX2_rebuildStash_66 : decode cX2_rebuildStash 66 = .ok (.iinc 3 1, 3) := by decide +kernel
theorem dX2_rebuildStash_69 : decode cX2_rebuildStash 69 = .ok (.goto (-28), 3) := by decide +kernel
theorem dX2_rebuildStash_72 : decode cX2_rebuildStash 72 = .ok (.iinc 2 1, 3) := by decide +kernel
theorem dX2_rebuildStash_75 : decode cX2_rebuildStash 75 = .ok (.goto (-47), 3) := by decide +kernel
theorem dX2_rebuildStash_78 : decode cX2_rebuildStash 78 = .ok (.return_, 1) := by decide +kernel
set_option maxRecDepth 20000 in
theorem ggX2_setByTheRest_X2_wordByTheRest : GoodIn wsX2_setByTheRest wsX2_wordByTheRest := goodIn_r _ [6, 1, 7, 8, 9, 10, 11, 12, 17, 18, 19, 20, 21, 22, 23, 24, 25, 26, 27, 28, 29, 30, 31, 32, 33] (by decide +kernel) (by decide +kernel)
set_option maxRecDepth 20000 in
theorem gX2_setByTheRest_X2_wordByTheRest : GoodIn wsX2_setByTheRest (wsV RX2 228 RX2 yX2_wordByTheRest wsX2_wordByTheRest) := goodIn_app (goodIn_of _ (by decide +kernel)) ggX2_setByTheRest_X2_wordByTheRest
set_option maxRecDepth 20000 in
theorem ggX2_setByTheRest_X0_setWord : GoodIn wsX2_setByTheRest wsX0_setWord := goodIn_r _ [16, 12, 27, 28, 29, 30, 31, 32, 33] (by decide +kernel) (by decide +kernel)
set_option maxRecDepth 20000 in
theorem gX2_setByTheRest_X0_setWord : GoodIn wsX2_setByTheRest (wsV RX2 266 RX0 yX0_setWord wsX0_setWord) := goodIn_app (goodIn_of _ (by decide +kernel)) ggX2_setByTheRest_X0_setWord
theorem dX2_setByTheRest_0 : decode cX2_setByTheRest 0 = .ok (.iconst 0, 1) := by decide +kernel
theorem dX2_setByTheRest_1 : decode cX2_setByTheRest 1 = .ok (.istore 4, 2) := by decide +kernel
theorem dX2_setByTheRest_3 : decode cX2_setByTheRest 3 = .ok (.iload 4, 2) := by decide +kernel
theorem dX2_setByTheRest_5 : decode cX2_setByTheRest 5 = .ok (.iconst 4, 1) := by decide +kernel
theorem dX2_setByTheRest_6 : decode cX2_setByTheRest 6 = .ok (.if_icmp .ge 30, 3) := by decide +kernel
theorem dX2_setByTheRest_9 : decode cX2_setByTheRest 9 = .ok (.aload_n 0, 1) := by decide +kernel
theorem dX2_setByTheRest_10 : decode cX2_setByTheRest 10 = .ok (.getfield 11, 3) := by decide +kernel
theorem dX2_setByTheRest_13 : decode cX2_setByTheRest 13 = .ok (.iload_n 3, 1) := by decide +kernel
theorem dX2_setByTheRest_14 : decode cX2_setByTheRest 14 = .ok (.aaload, 1) := by decide +kernel
theorem dX2_setByTheRest_15 : decode cX2_setByTheRest 15 = .ok (.iload_n 2, 1) := by decide +kernel
theorem dX2_setByTheRest_16 : decode cX2_setByTheRest 16 = .ok (.iload 4, 2) := by decide +kernel
theorem dX2_setByTheRest_18 : decode cX2_setByTheRest 18 = .ok (.aload_n 0, 1) := by decide +kernel
theorem dX2_setByTheRest_19 : decode cX2_setByTheRest 19 = .ok (.iload_n 1, 1) := by decide +kernel
theorem dX2_setByTheRest_20 : decode cX2_setByTheRest 20 = .ok (.iload_n 2, 1) := by decide +kernel
theorem dX2_setByTheRest_21 : decode cX2_setByTheRest 21 = .ok (.iload_n 3, 1) := by decide +kernel
theorem dX2_setByTheRest_22 : decode cX2_setByTheRest 22 = .ok (.iload 4, 2) := by decide +kernel
theorem dX2_setByTheRest_24 : decode cX2_setByTheRest 24 = .ok (.invokevirtual 228, 3) := by decide +kernel
theorem dX2_setByTheRest_27 : decode cX2_setByTheRest 27 = .ok (.invokevirtual 266, 3) := by decide +kernel
theorem dX2_setByTheRest_30 : decode cX2_setByTheRest 30 = .ok (.iinc 4 1, 3) := by decide +kernel
theorem dX2_setByTheRest_33 : decode cX2_setByTheRest 33 = .ok (.goto (-30), 3) := by decide +kernel
theorem dX2_setByTheRest_36 : decode cX2_setByTheRest 36 = .ok (.return_, 1) := by decide +kernel
set_option maxRecDepth 20000 in
theorem ggX2_highestMarks_X0_marksIn : GoodIn wsX2_highestMarks wsX0_marksIn := goodIn_r _ [6, 7, 8, 24, 25, 26, 27, 28, 29, 30] (by decide +kernel) (by decide +kernel)
set_option maxRecDepth 20000 in
theorem gX2_highestMarks_X0_marksIn : GoodIn wsX2_highestMarks (wsV RX2 193 RX0 yX0_marksIn wsX0_marksIn) := goodIn_app (goodIn_of _ (by decide +kernel)) ggX2_highestMarks_X0_marksIn
theorem dX2_highestMarks_0 : decode cX2_highestMarks 0 = .ok (.aload_n 0, 1) := by decide +kernel
theorem dX2_highestMarks_1 : decode cX2_highestMarks 1 = .ok (.getfield 11, 3) := by decide +kernel
theorem dX2_highestMarks_4 : decode cX2_highestMarks 4 = .ok (.iconst 0, 1) := by decide +kernel
theorem dX2_highestMarks_5 : decode cX2_highestMarks 5 = .ok (.aaload, 1) := by decide +kernel
theorem dX2_highestMarks_6 : decode cX2_highestMarks 6 = .ok (.iconst 0, 1) := by decide +kernel
theorem dX2_highestMarks_7 : decode cX2_highestMarks 7 = .ok (.invokevirtual 193, 3) := by decide +kernel
theorem dX2_highestMarks_10 : decode cX2_highestMarks 10 = .ok (.astore_n 1, 1) := by decide +kernel
theorem dX2_highestMarks_11 : decode cX2_highestMarks 11 = .ok (.iconst 0, 1) := by decide +kernel
theorem dX2_highestMarks_12 : decode cX2_highestMarks 12 = .ok (.istore_n 2, 1) := by decide +kernel
theorem dX2_highestMarks_13 : decode cX2_highestMarks 13 = .ok (.iload_n 2, 1) := by decide +kernel
theorem dX2_highestMarks_14 : decode cX2_highestMarks 14 = .ok (.bipush 6, 2) := by decide +kernel
theorem dX2_highestMarks_16 : decode cX2_highestMarks 16 = .ok (.if_icmp .ge 49, 3) := by decide +kernel
theorem dX2_highestMarks_19 : decode cX2_highestMarks 19 = .ok (.iconst 0, 1) := by decide +kernel
theorem dX2_highestMarks_20 : decode cX2_highestMarks 20 = .ok (.istore_n 3, 1) := by decide +kernel
theorem dX2_highestMarks_21 : decode cX2_highestMarks 21 = .ok (.iload_n 3, 1) := by decide +kernel
theorem dX2_highestMarks_22 : decode cX2_highestMarks 22 = .ok (.iconst 2, 1) := by decide +kernel
theorem dX2_highestMarks_23 : decode cX2_highestMarks 23 = .ok (.if_icmp .ge 36, 3) := by decide +kernel
theorem dX2_highestMarks_26 : decode cX2_highestMarks 26 = .ok (.aload_n 0, 1) := by decide +kernel
theorem dX2_highestMarks_27 : decode cX2_highestMarks 27 = .ok (.getfield 11, 3) := by decide +kernel
theorem dX2_highestMarks_30 : decode cX2_highestMarks 30 = .ok (.iload_n 2, 1) := by decide +kernel
theorem dX2_highestMarks_31 : decode cX2_highestMarks 31 = .ok (.aaload, 1) := by decide +kernel
theorem dX2_highestMarks_32 : decode cX2_highestMarks 32 = .ok (.iload_n 3, 1) := by decide +kernel
theorem dX2_highestMarks_33 : decode cX2_highestMarks 33 = .ok (.invokevirtual 193, 3) := by decide +kernel
theorem dX2_highestMarks_36 : decode cX2_highestMarks 36 = .ok (.astore 4, 2) := by decide +kernel
theorem dX2_highestMarks_38 : decode cX2_highestMarks 38 = .ok (.aload 4, 2) := by decide +kernel
theorem dX2_highestMarks_40 : decode cX2_highestMarks 40 = .ok (.getfield 197, 3) := by decide +kernel
theorem dX2_highestMarks_43 : decode cX2_highestMarks 43 = .ok (.aload_n 1, 1) := by decide +kernel
theorem dX2_highestMarks_44 : decode cX2_highestMarks 44 = .ok (.getfield 197, 3) := by decide +kernel
theorem dX2_highestMarks_47 : decode cX2_highestMarks 47 = .ok (.if_icmp .le 6, 3) := by decide +kernel
theorem dX2_highestMarks_50 : decode cX2_highestMarks 50 = .ok (.aload 4, 2) := by decide +kernel
theorem dX2_highestMarks_52 : decode cX2_highestMarks 52 = .ok (.astore_n 1, 1) := by decide +kernel
theorem dX2_highestMarks_53 : decode cX2_highestMarks 53 = .ok (.iinc 3 1, 3) := by decide +kernel
theorem dX2_highestMarks_56 : decode cX2_highestMarks 56 = .ok (.goto (-35), 3) := by decide +kernel
theorem dX2_highestMarks_59 : decode cX2_highestMarks 59 = .ok (.iinc 2 1, 3) := by decide +kernel
theorem dX2_highestMarks_62 : decode cX2_highestMarks 62 = .ok (.goto (-49), 3) := by decide +kernel
theorem dX2_highestMarks_65 : decode cX2_highestMarks 65 = .ok (.aload_n 1, 1) := by decide +kernel
theorem dX2_highestMarks_66 : decode cX2_highestMarks 66 = .ok (.areturn, 1) := by decide +kernel
set_option maxRecDepth 20000 in
theorem ggX2_mendParity_X2_widthOfRow : GoodIn wsX2_mendParity wsX2_widthOfRow := goodIn_r _ [5, 6, 33, 34, 35, 36, 37, 38, 39, 40, 41, 42, 43, 44, 45, 46, 47] (by decide +kernel) (by decide +kernel)
set_option maxRecDepth 20000 in
theorem gX2_mendParity_X2_widthOfRow : GoodIn wsX2_mendParity (wsV RX2 231 RX2 yX2_widthOfRow wsX2_widthOfRow) := goodIn_app (goodIn_of _ (by decide +kernel)) ggX2_mendParity_X2_widthOfRow
set_option maxRecDepth 20000 in
theorem ggX2_mendParity_X2_isBeingLaid : GoodIn wsX2_mendParity wsX2_isBeingLaid := goodIn_r _ [10, 6, 33, 34, 35, 36, 37, 38, 39, 40, 41, 42, 43, 44, 45, 46, 47] (by decide +kernel) (by decide +kernel)
set_option maxRecDepth 20000 in
theorem gX2_mendParity_X2_isBeingLaid : GoodIn wsX2_mendParity (wsV RX2 177 RX2 yX2_isBeingLaid wsX2_isBeingLaid) := goodIn_app (goodIn_of _ (by decide +kernel)) ggX2_mendParity_X2_isBeingLaid
set_option maxRecDepth 20000 in
theorem ggX2_mendParity_X2_parityDisk : GoodIn wsX2_mendParity wsX2_parityDisk := goodIn_r _ [13] (by decide +kernel) (by decide +kernel)
set_option maxRecDepth 20000 in
theorem gX2_mendParity_X2_parityDisk : GoodIn wsX2_mendParity (va_wsS RX2 214 yX2_parityDisk wsX2_parityDisk) := goodIn_app (goodIn_of _ (by decide +kernel)) ggX2_mendParity_X2_parityDisk
set_option maxRecDepth 20000 in
theorem ggX2_mendParity_X2_setByTheRest : GoodIn wsX2_mendParity wsX2_setByTheRest := goodIn_r _ [17, 18, 19, 20, 21, 4, 22, 23, 24, 25, 26, 27, 28, 29, 30, 31, 32, 33, 34, 35, 36, 37, 38, 39, 40, 41, 42, 48, 49, 50, 51, 52, 53, 54] (by decide +kernel) (by decide +kernel)
set_option maxRecDepth 20000 in
theorem gX2_mendParity_X2_setByTheRest : GoodIn wsX2_mendParity (wsV RX2 262 RX2 yX2_setByTheRest wsX2_setByTheRest) := goodIn_app (goodIn_of _ (by decide +kernel)) ggX2_mendParity_X2_setByTheRest
theorem dX2_mendParity_0 : decode cX2_mendParity 0 = .ok (.iconst 0, 1) := by decide +kernel
theorem dX2_mendParity_1 : decode cX2_mendParity 1 = .ok (.istore_n 1, 1) := by decide +kernel
theorem dX2_mendParity_2 : decode cX2_mendParity 2 = .ok (.iload_n 1, 1) := by decide +kernel
theorem dX2_mendParity_3 : decode cX2_mendParity 3 = .ok (.bipush 32, 2) := by decide +kernel
theorem dX2_mendParity_5 : decode cX2_mendParity 5 = .ok (.if_icmp .ge 34, 3) := by decide +kernel
theorem dX2_mendParity_8 : decode cX2_mendParity 8 = .ok (.aload_n 0, 1) := by decide +kernel
theorem dX2_mendParity_9 : decode cX2_mendParity 9 = .ok (.iload_n 1, 1) := by decide +kernel
theorem dX2_mendParity_10 : decode cX2_mendParity 10 = .ok (.invokevirtual 231, 3) := by decide +kernel
theorem dX2_mendParity_13 : decode cX2_mendParity 13 = .ok (.istore_n 2, 1) := by decide +kernel
theorem dX2_mendParity_14 : decode cX2_mendParity 14 = .ok (.aload_n 0, 1) := by decide +kernel
theorem dX2_mendParity_15 : decode cX2_mendParity 15 = .ok (.iload_n 1, 1) := by decide +kernel
theorem dX2_mendParity_16 : decode cX2_mendParity 16 = .ok (.invokevirtual 177, 3) := by decide +kernel
theorem dX2_mendParity_19 : decode cX2_mendParity 19 = .ok (.ifCond .ne 14, 3) := by decide +kernel
theorem dX2_mendParity_22 : decode cX2_mendParity 22 = .ok (.aload_n 0, 1) := by decide +kernel
theorem dX2_mendParity_23 : decode cX2_mendParity 23 = .ok (.iload_n 2, 1) := by decide +kernel
theorem dX2_mendParity_24 : decode cX2_mendParity 24 = .ok (.iload_n 1, 1) := by decide +kernel
theorem dX2_mendParity_25 : decode cX2_mendParity 25 = .ok (.iload_n 2, 1) := by decide +kernel
theorem dX2_mendParity_26 : decode cX2_mendParity 26 = .ok (.iload_n 1, 1) := by decide +kernel
theorem dX2_mendParity_27 : decode cX2_mendParity 27 = .ok (.invokestatic 214, 3) := by decide +kernel
theorem dX2_mendParity_30 : decode cX2_mendParity 30 = .ok (.invokevirtual 262, 3) := by decide +kernel
theorem dX2_mendParity_33 : decode cX2_mendParity 33 = .ok (.iinc 1 1, 3) := by decide +kernel
theorem dX2_mendParity_36 : decode cX2_mendParity 36 = .ok (.goto (-34), 3) := by decide +kernel
theorem dX2_mendParity_39 : decode cX2_mendParity 39 = .ok (.return_, 1) := by decide +kernel
theorem dX3_init_0 : decode cX3_init 0 = .ok (.aload_n 0, 1) := by decide +kernel
theorem dX3_init_1 : decode cX3_init 1 = .ok (.invokespecial 1, 3) := by decide +kernel
theorem dX3_init_4 : decode cX3_init 4 = .ok (.aload_n 0, 1) := by decide +kernel
theorem dX3_init_5 : decode cX3_init 5 = .ok (.iconst (-1), 1) := by decide +kernel
theorem dX3_init_6 : decode cX3_init 6 = .ok (.putfield 7, 3) := by decide +kernel
theorem dX3_init_9 : decode cX3_init 9 = .ok (.aload_n 0, 1) := by decide +kernel
theorem dX3_init_10 : decode cX3_init 10 = .ok (.iconst (-1), 1) := by decide +kernel
theorem dX3_init_11 : decode cX3_init 11 = .ok (.putfield 13, 3) := by decide +kernel
theorem dX3_init_14 : decode cX3_init 14 = .ok (.aload_n 0, 1) := by decide +kernel
theorem dX3_init_15 : decode cX3_init 15 = .ok (.sipush 1120, 3) := by decide +kernel
theorem dX3_init_18 : decode cX3_init 18 = .ok (.newarray .int, 2) := by decide +kernel
theorem dX3_init_20 : decode cX3_init 20 = .ok (.putfield 16, 3) := by decide +kernel
theorem dX3_init_23 : decode cX3_init 23 = .ok (.aload_n 0, 1) := by decide +kernel
theorem dX3_init_24 : decode cX3_init 24 = .ok (.bipush 70, 2) := by decide +kernel
theorem dX3_init_26 : decode cX3_init 26 = .ok (.newarray .int, 2) := by decide +kernel
theorem dX3_init_28 : decode cX3_init 28 = .ok (.putfield 20, 3) := by decide +kernel
theorem dX3_init_31 : decode cX3_init 31 = .ok (.aload_n 0, 1) := by decide +kernel
theorem dX3_init_32 : decode cX3_init 32 = .ok (.bipush 32, 2) := by decide +kernel
theorem dX3_init_34 : decode cX3_init 34 = .ok (.newarray .int, 2) := by decide +kernel
theorem dX3_init_36 : decode cX3_init 36 = .ok (.putfield 23, 3) := by decide +kernel
theorem dX3_init_39 : decode cX3_init 39 = .ok (.aload_n 0, 1) := by decide +kernel
theorem dX3_init_40 : decode cX3_init 40 = .ok (.bipush 32, 2) := by decide +kernel
theorem dX3_init_42 : decode cX3_init 42 = .ok (.newarray .int, 2) := by decide +kernel
theorem dX3_init_44 : decode cX3_init 44 = .ok (.putfield 26, 3) := by decide +kernel
theorem dX3_init_47 : decode cX3_init 47 = .ok (.aload_n 0, 1) := by decide +kernel
theorem dX3_init_48 : decode cX3_init 48 = .ok (.sipush 160, 3) := by decide +kernel
theorem dX3_init_51 : decode cX3_init 51 = .ok (.newarray .int, 2) := by decide +kernel
theorem dX3_init_53 : decode cX3_init 53 = .ok (.putfield 29, 3) := by decide +kernel
theorem dX3_init_56 : decode cX3_init 56 = .ok (.aload_n 0, 1) := by decide +kernel
theorem dX3_init_57 : decode cX3_init 57 = .ok (.bipush 7, 2) := by decide +kernel
theorem dX3_init_59 : decode cX3_init 59 = .ok (.newarray .int, 2) := by decide +kernel
theorem dX3_init_61 : decode cX3_init 61 = .ok (.putfield 32, 3) := by decide +kernel
theorem dX3_init_64 : decode cX3_init 64 = .ok (.aload_n 0, 1) := by decide +kernel
theorem dX3_init_65 : decode cX3_init 65 = .ok (.bipush 7, 2) := by decide +kernel
theorem dX3_init_67 : decode cX3_init 67 = .ok (.newarray .int, 2) := by decide +kernel
theorem dX3_init_69 : decode cX3_init 69 = .ok (.putfield 35, 3) := by decide +kernel
theorem dX3_init_72 : decode cX3_init 72 = .ok (.aload_n 0, 1) := by decide +kernel
theorem dX3_init_73 : decode cX3_init 73 = .ok (.iconst 4, 1) := by decide +kernel
theorem dX3_init_74 : decode cX3_init 74 = .ok (.newarray .int, 2) := by decide +kernel
theorem dX3_init_76 : decode cX3_init 76 = .ok (.putfield 38, 3) := by decide +kernel
theorem dX3_init_79 : decode cX3_init 79 = .ok (.aload_n 0, 1) := by decide +kernel
theorem dX3_init_80 : decode cX3_init 80 = .ok (.iconst 4, 1) := by decide +kernel
theorem dX3_init_81 : decode cX3_init 81 = .ok (.newarray .int, 2) := by decide +kernel
theorem dX3_init_83 : decode cX3_init 83 = .ok (.putfield 41, 3) := by decide +kernel
theorem dX3_init_86 : decode cX3_init 86 = .ok (.return_, 1) := by decide +kernel
theorem dX3_thrown_0 : decode cX3_thrown 0 = .ok (.aload_n 0, 1) := by decide +kernel
theorem dX3_thrown_1 : decode cX3_thrown 1 = .ok (.getfield 44, 3) := by decide +kernel
theorem dX3_thrown_4 : decode cX3_thrown 4 = .ok (.ireturn, 1) := by decide +kernel
theorem dX3_fail_0 : decode cX3_fail 0 = .ok (.aload_n 0, 1) := by decide +kernel
theorem dX3_fail_1 : decode cX3_fail 1 = .ok (.iload_n 1, 1) := by decide +kernel
theorem dX3_fail_2 : decode cX3_fail 2 = .ok (.putfield 44, 3) := by decide +kernel
theorem dX3_fail_5 : decode cX3_fail 5 = .ok (.iconst 0, 1) := by decide +kernel
theorem dX3_fail_6 : decode cX3_fail 6 = .ok (.ireturn, 1) := by decide +kernel
theorem dX3_within_0 : decode cX3_within 0 = .ok (.iload_n 0, 1) := by decide +kernel
theorem dX3_within_1 : decode cX3_within 1 = .ok (.iload_n 1, 1) := by decide +kernel
theorem dX3_within_2 : decode cX3_within 2 = .ok (.if_icmp .lt 12, 3) := by decide +kernel
theorem dX3_within_5 : decode cX3_within 5 = .ok (.iload_n 0, 1) := by decide +kernel
theorem dX3_within_6 : decode cX3_within 6 = .ok (.iload_n 2, 1) := by decide +kernel
theorem dX3_within_7 : decode cX3_within 7 = .ok (.if_icmp .gt 7, 3) := by decide +kernel
theorem dX3_within_10 : decode cX3_within 10 = .ok (.iconst 1, 1) := by decide +kernel
theorem dX3_within_11 : decode cX3_within 11 = .ok (.goto 4, 3) := by decide +kernel
theorem dX3_within_14 : decode cX3_within 14 = .ok (.iconst 0, 1) := by decide +kernel
theorem dX3_within_15 : decode cX3_within 15 = .ok (.ireturn, 1) := by decide +kernel
theorem dX3_works_0 : decode cX3_works 0 = .ok (.aload_n 0, 1) := by decide +kernel
theorem dX3_works_1 : decode cX3_works 1 = .ok (.aload_n 0, 1) := by decide +kernel
theorem dX3_works_2 : decode cX3_works 2 = .ok (.getfield 47, 3) := by decide +kernel
theorem dX3_works_5 : decode cX3_works 5 = .ok (.ifCond .eq 14, 3) := by decide +kernel
theorem dX3_works_8 : decode cX3_works 8 = .ok (.aload_n 0, 1) := by decide +kernel
theorem dX3_works_9 : decode cX3_works 9 = .ok (.getfield 51, 3) := by decide +kernel
theorem dX3_works_12 : decode cX3_works 12 = .ok (.ifCond .ne 7, 3) := by decide +kernel
theorem dX3_works_15 : decode cX3_works 15 = .ok (.iconst 0, 1) := by decide +kernel
theorem dX3_works_16 : decode cX3_works 16 = .ok (.goto 4, 3) := by decide +kernel
theorem dX3_works_19 : decode cX3_works 19 = .ok (.iconst 1, 1) := by decide +kernel
theorem dX3_works_20 : decode cX3_works 20 = .ok (.putfield 44, 3) := by decide +kernel
theorem dX3_works_23 : decode cX3_works 23 = .ok (.aload_n 0, 1) := by decide +kernel
theorem dX3_works_24 : decode cX3_works 24 = .ok (.getfield 44, 3) := by decide +kernel
theorem dX3_works_27 : decode cX3_works 27 = .ok (.ifCond .ne 7, 3) := by decide +kernel
theorem dX3_works_30 : decode cX3_works 30 = .ok (.iconst 1, 1) := by decide +kernel
theorem dX3_works_31 : decode cX3_works 31 = .ok (.goto 4, 3) := by decide +kernel
theorem dX3_works_34 : decode cX3_works 34 = .ok (.iconst 0, 1) := by decide +kernel
theorem dX3_works_35 : decode cX3_works 35 = .ok (.ireturn, 1) := by decide +kernel
theorem dX3_disks_0 : decode cX3_disks 0 = .ok (.aload_n 0, 1) := by decide +kernel
theorem dX3_disks_1 : decode cX3_disks 1 = .ok (.getfield 54, 3) := by decide +kernel
theorem dX3_disks_4 : decode cX3_disks 4 = .ok (.ifCond .eq 12, 3) := by decide +kernel
theorem dX3_disks_7 : decode cX3_disks 7 = .ok (.aload_n 0, 1) := by decide +kernel
theorem dX3_disks_8 : decode cX3_disks 8 = .ok (.getfield 57, 3) := by decide +kernel
theorem dX3_disks_11 : decode cX3_disks 11 = .ok (.iconst 1, 1) := by decide +kernel
theorem dX3_disks_12 : decode cX3_disks 12 = .ok (.iadd, 1) := by decide +kernel
theorem dX3_disks_13 : decode cX3_disks 13 = .ok (.goto 7, 3) := by decide +kernel
theorem dX3_disks_16 : decode cX3_disks 16 = .ok (.aload_n 0, 1) := by decide +kernel
theorem dX3_disks_17 : decode cX3_disks 17 = .ok (.getfield 57, 3) := by decide +kernel
theorem dX3_disks_20 : decode cX3_disks 20 = .ok (.ireturn, 1) := by decide +kernel
theorem dX3_capacity_0 : decode cX3_capacity 0 = .ok (.bipush 32, 2) := by decide +kernel
theorem dX3_capacity_2 : decode cX3_capacity 2 = .ok (.aload_n 0, 1) := by decide +kernel
theorem dX3_capacity_3 : decode cX3_capacity 3 = .ok (.getfield 57, 3) := by decide +kernel
theorem dX3_capacity_6 : decode cX3_capacity 6 = .ok (.iconst 1, 1) := by decide +kernel
theorem dX3_capacity_7 : decode cX3_capacity 7 = .ok (.isub, 1) := by decide +kernel
theorem dX3_capacity_8 : decode cX3_capacity 8 = .ok (.imul, 1) := by decide +kernel
theorem dX3_capacity_9 : decode cX3_capacity 9 = .ok (.ireturn, 1) := by decide +kernel
theorem dX3_isOut_0 : decode cX3_isOut 0 = .ok (.iload_n 1, 1) := by decide +kernel
theorem dX3_isOut_1 : decode cX3_isOut 1 = .ok (.aload_n 0, 1) := by decide +kernel
theorem dX3_isOut_2 : decode cX3_isOut 2 = .ok (.getfield 7, 3) := by decide +kernel
theorem dX3_isOut_5 : decode cX3_isOut 5 = .ok (.if_icmp .eq 11, 3) := by decide +kernel
theorem dX3_isOut_8 : decode cX3_isOut 8 = .ok (.iload_n 1, 1) := by decide +kernel
theorem dX3_isOut_9 : decode cX3_isOut 9 = .ok (.aload_n 0, 1) := by decide +kernel
theorem dX3_isOut_10 : decode cX3_isOut 10 = .ok (.getfield 13, 3) := by decide +kernel
theorem dX3_isOut_13 : decode cX3_isOut 13 = .ok (.if_icmp .ne 7, 3) := by decide +kernel
theorem dX3_isOut_16 : decode cX3_isOut 16 = .ok (.iconst 1, 1) := by decide +kernel
theorem dX3_isOut_17 : decode cX3_isOut 17 = .ok (.goto 4, 3) := by decide +kernel
theorem dX3_isOut_20 : decode cX3_isOut 20 = .ok (.iconst 0, 1) := by decide +kernel
theorem dX3_isOut_21 : decode cX3_isOut 21 = .ok (.ireturn, 1) := by decide +kernel
theorem dX3_hasOut_0 : decode cX3_hasOut 0 = .ok (.aload_n 0, 1) := by decide +kernel
theorem dX3_hasOut_1 : decode cX3_hasOut 1 = .ok (.getfield 7, 3) := by decide +kernel
theorem dX3_hasOut_4 : decode cX3_hasOut 4 = .ok (.ifCond .ge 10, 3) := by decide +kernel
theorem dX3_hasOut_7 : decode cX3_hasOut 7 = .ok (.aload_n 0, 1) := by decide +kernel
theorem dX3_hasOut_8 : decode cX3_hasOut 8 = .ok (.getfield 13, 3) := by decide +kernel
theorem dX3_hasOut_11 : decode cX3_hasOut 11 = .ok (.ifCond .lt 7, 3) := by decide +kernel
theorem dX3_hasOut_14 : decode cX3_hasOut 14 = .ok (.iconst 1, 1) := by decide +kernel
theorem dX3_hasOut_15 : decode cX3_hasOut 15 = .ok (.goto 4, 3) := by decide +kernel
theorem dX3_hasOut_18 : decode cX3_hasOut 18 = .ok (.iconst 0, 1) := by decide +kernel
theorem dX3_hasOut_19 : decode cX3_hasOut 19 = .ok (.ireturn, 1) := by decide +kernel
theorem dX3_parityDisk_0 : decode cX3_parityDisk 0 = .ok (.iload_n 0, 1) := by decide +kernel
theorem dX3_parityDisk_1 : decode cX3_parityDisk 1 = .ok (.iconst 1, 1) := by decide +kernel
theorem dX3_parityDisk_2 : decode cX3_parityDisk 2 = .ok (.isub, 1) := by decide +kernel
theorem dX3_parityDisk_3 : decode cX3_parityDisk 3 = .ok (.iload_n 1, 1) := by decide +kernel
theorem dX3_parityDisk_4 : decode cX3_parityDisk 4 = .ok (.isub, 1) := by decide +kernel
theorem dX3_parityDisk_5 : decode cX3_parityDisk 5 = .ok (.iload_n 0, 1) := by decide +kernel
theorem dX3_parityDisk_6 : decode cX3_parityDisk 6 = .ok (.irem, 1) := by decide +kernel
theorem dX3_parityDisk_7 : decode cX3_parityDisk 7 = .ok (.iload_n 0, 1) := by decide +kernel
theorem dX3_parityDisk_8 : decode cX3_parityDisk 8 = .ok (.iadd, 1) := by decide +kernel
theorem dX3_parityDisk_9 : decode cX3_parityDisk 9 = .ok (.iload_n 0, 1) := by decide +kernel
theorem dX3_parityDisk_10 : decode cX3_parityDisk 10 = .ok (.irem, 1) := by decide +kernel
theorem dX3_parityDisk_11 : decode cX3_parityDisk 11 = .ok (.ireturn, 1) := by decide +kernel
set_option maxRecDepth 20000 in
theorem ggX3_dataDisk_X3_parityDisk : GoodIn wsX3_dataDisk wsX3_parityDisk := goodIn_r _ [4] (by decide +kernel) (by decide +kernel)
set_option maxRecDepth 20000 in
theorem gX3_dataDisk_X3_parityDisk : GoodIn wsX3_dataDisk (va_wsS RX3 60 yX3_parityDisk wsX3_parityDisk) := goodIn_app (goodIn_of _ (by decide +kernel)) ggX3_dataDisk_X3_parityDisk
theorem dX3_dataDisk_0 : decode cX3_dataDisk 0 = .ok (.iload_n 0, 1) := by decide +kernel
theorem dX3_dataDisk_1 : decode cX3_dataDisk 1 = .ok (.iload_n 1, 1) := by decide +kernel
theorem dX3_dataDisk_2 : decode cX3_dataDisk 2 = .ok (.invokestatic 60, 3) := by decide +kernel
theorem dX3_dataDisk_5 : decode cX3_dataDisk 5 = .ok (.iconst 1, 1) := by decide +kernel
theorem dX3_dataDisk_6 : decode cX3_dataDisk 6 = .ok (.iadd, 1) := by decide +kernel
theorem dX3_dataDisk_7 : decode cX3_dataDisk 7 = .ok (.iload_n 2, 1) := by decide +kernel
theorem dX3_dataDisk_8 : decode cX3_dataDisk 8 = .ok (.iadd, 1) := by decide +kernel
theorem dX3_dataDisk_9 : decode cX3_dataDisk 9 = .ok (.iload_n 0, 1) := by decide +kernel
theorem dX3_dataDisk_10 : decode cX3_dataDisk 10 = .ok (.irem, 1) := by decide +kernel
theorem dX3_dataDisk_11 : decode cX3_dataDisk 11 = .ok (.ireturn, 1) := by decide +kernel
theorem dX3_widthOf_0 : decode cX3_widthOf 0 = .ok (.aload_n 0, 1) := by decide +kernel
theorem dX3_widthOf_1 : decode cX3_widthOf 1 = .ok (.getfield 54, 3) := by decide +kernel
theorem dX3_widthOf_4 : decode cX3_widthOf 4 = .ok (.ifCond .eq 20, 3) := by decide +kernel
theorem dX3_widthOf_7 : decode cX3_widthOf 7 = .ok (.iload_n 1, 1) := by decide +kernel
theorem dX3_widthOf_8 : decode cX3_widthOf 8 = .ok (.aload_n 0, 1) := by decide +kernel
theorem dX3_widthOf_9 : decode cX3_widthOf 9 = .ok (.getfield 64, 3) := by decide +kernel
theorem dX3_widthOf_12 : decode cX3_widthOf 12 = .ok (.if_icmp .ge 12, 3) := by decide +kernel
theorem dX3_widthOf_15 : decode cX3_widthOf 15 = .ok (.aload_n 0, 1) := by decide +kernel
theorem dX3_widthOf_16 : decode cX3_widthOf 16 = .ok (.getfield 57, 3) := by decide +kernel
theorem dX3_widthOf_19 : decode cX3_widthOf 19 = .ok (.iconst 1, 1) := by decide +kernel
theorem dX3_widthOf_20 : decode cX3_widthOf 20 = .ok (.iadd, 1) := by decide +kernel
theorem dX3_widthOf_21 : decode cX3_widthOf 21 = .ok (.goto 7, 3) := by decide +kernel
theorem dX3_widthOf_24 : decode cX3_widthOf 24 = .ok (.aload_n 0, 1) := by decide +kernel
theorem dX3_widthOf_25 : decode cX3_widthOf 25 = .ok (.getfield 57, 3) := by decide +kernel
theorem dX3_widthOf_28 : decode cX3_widthOf 28 = .ok (.ireturn, 1) := by decide +kernel
set_option maxRecDepth 20000 in
theorem ggX3_isInWindow_X3_within : GoodIn wsX3_isInWindow wsX3_within := goodIn_r _ [7] (by decide +kernel) (by decide +kernel)
set_option maxRecDepth 20000 in
theorem gX3_isInWindow_X3_within : GoodIn wsX3_isInWindow (va_wsS RX3 70 yX3_within wsX3_within) := goodIn_app (goodIn_of _ (by decide +kernel)) ggX3_isInWindow_X3_within
theorem dX3_isInWindow_0 : decode cX3_isInWindow 0 = .ok (.aload_n 0, 1) := by decide +kernel
theorem dX3_isInWindow_1 : decode cX3_isInWindow 1 = .ok (.getfield 67, 3) := by decide +kernel
theorem dX3_isInWindow_4 : decode cX3_isInWindow 4 = .ok (.ifCond .eq 39, 3) := by decide +kernel
theorem dX3_isInWindow_7 : decode cX3_isInWindow 7 = .ok (.iload_n 1, 1) := by decide +kernel
theorem dX3_isInWindow_8 : decode cX3_isInWindow 8 = .ok (.aload_n 0, 1) := by decide +kernel
theorem dX3_isInWindow_9 : decode cX3_isInWindow 9 = .ok (.getfield 64, 3) := by decide +kernel
theorem dX3_isInWindow_12 : decode cX3_isInWindow 12 = .ok (.aload_n 0, 1) := by decide +kernel
theorem dX3_isInWindow_13 : decode cX3_isInWindow 13 = .ok (.getfield 57, 3) := by decide +kernel
theorem dX3_isInWindow_16 : decode cX3_isInWindow 16 = .ok (.imul, 1) := by decide +kernel
theorem dX3_isInWindow_17 : decode cX3_isInWindow 17 = .ok (.aload_n 0, 1) := by decide +kernel
theorem dX3_isInWindow_18 : decode cX3_isInWindow 18 = .ok (.getfield 64, 3) := by decide +kernel
theorem dX3_isInWindow_21 : decode cX3_isInWindow 21 = .ok (.aload_n 0, 1) := by decide +kernel
theorem dX3_isInWindow_22 : decode cX3_isInWindow 22 = .ok (.getfield 57, 3) := by decide +kernel
theorem dX3_isInWindow_25 : decode cX3_isInWindow 25 = .ok (.imul, 1) := by decide +kernel
theorem dX3_isInWindow_26 : decode cX3_isInWindow 26 = .ok (.aload_n 0, 1) := by decide +kernel
theorem dX3_isInWindow_27 : decode cX3_isInWindow 27 = .ok (.getfield 57, 3) := by decide +kernel
theorem dX3_isInWindow_30 : decode cX3_isInWindow 30 = .ok (.iadd, 1) := by decide +kernel
theorem dX3_isInWindow_31 : decode cX3_isInWindow 31 = .ok (.iconst 1, 1) := by decide +kernel
theorem dX3_isInWindow_32 : decode cX3_isInWindow 32 = .ok (.isub, 1) := by decide +kernel
theorem dX3_isInWindow_33 : decode cX3_isInWindow 33 = .ok (.invokestatic 70, 3) := by decide +kernel
theorem dX3_isInWindow_36 : decode cX3_isInWindow 36 = .ok (.ifCond .eq 7, 3) := by decide +kernel
theorem dX3_isInWindow_39 : decode cX3_isInWindow 39 = .ok (.iconst 1, 1) := by decide +kernel
theorem dX3_isInWindow_40 : decode cX3_isInWindow 40 = .ok (.goto 4, 3) := by decide +kernel
theorem dX3_isInWindow_43 : decode cX3_isInWindow 43 = .ok (.iconst 0, 1) := by decide +kernel
theorem dX3_isInWindow_44 : decode cX3_isInWindow 44 = .ok (.ireturn, 1) := by decide +kernel
theorem dX3_isNew_0 : decode cX3_isNew 0 = .ok (.aload_n 0, 1) := by decide +kernel
theorem dX3_isNew_1 : decode cX3_isNew 1 = .ok (.getfield 54, 3) := by decide +kernel
theorem dX3_isNew_4 : decode cX3_isNew 4 = .ok (.ifCond .eq 20, 3) := by decide +kernel
theorem dX3_isNew_7 : decode cX3_isNew 7 = .ok (.iload_n 1, 1) := by decide +kernel
theorem dX3_isNew_8 : decode cX3_isNew 8 = .ok (.aload_n 0, 1) := by decide +kernel
theorem dX3_isNew_9 : decode cX3_isNew 9 = .ok (.getfield 64, 3) := by decide +kernel
theorem dX3_isNew_12 : decode cX3_isNew 12 = .ok (.aload_n 0, 1) := by decide +kernel
theorem dX3_isNew_13 : decode cX3_isNew 13 = .ok (.getfield 57, 3) := by decide +kernel
theorem dX3_isNew_16 : decode cX3_isNew 16 = .ok (.imul, 1) := by decide +kernel
theorem dX3_isNew_17 : decode cX3_isNew 17 = .ok (.if_icmp .ge 7, 3) := by decide +kernel
theorem dX3_isNew_20 : decode cX3_isNew 20 = .ok (.iconst 1, 1) := by decide +kernel
theorem dX3_isNew_21 : decode cX3_isNew 21 = .ok (.goto 4, 3) := by decide +kernel
theorem dX3_isNew_24 : decode cX3_isNew 24 = .ok (.iconst 0, 1) := by decide +kernel
theorem dX3_isNew_25 : decode cX3_isNew 25 = .ok (.ireturn, 1) := by decide +kernel
theorem dX3_at_0 : decode cX3_at 0 = .ok (.sipush 160, 3) := by decide +kernel
theorem dX3_at_3 : decode cX3_at 3 = .ok (.iload_n 0, 1) := by decide +kernel
theorem dX3_at_4 : decode cX3_at 4 = .ok (.imul, 1) := by decide +kernel
theorem dX3_at_5 : decode cX3_at 5 = .ok (.iconst 4, 1) := by decide +kernel
theorem dX3_at_6 : decode cX3_at 6 = .ok (.iload_n 1, 1) := by decide +kernel
theorem dX3_at_7 : decode cX3_at 7 = .ok (.imul, 1) := by decide +kernel
theorem dX3_at_8 : decode cX3_at 8 = .ok (.iadd, 1) := by decide +kernel
theorem dX3_at_9 : decode cX3_at 9 = .ok (.iload_n 2, 1) := by decide +kernel
theorem dX3_at_10 : decode cX3_at 10 = .ok (.iadd, 1) := by decide +kernel
theorem dX3_at_11 : decode cX3_at 11 = .ok (.ireturn, 1) := by decide +kernel
set_option maxRecDepth 20000 in
theorem ggX3_wordOf_X3_isOut : GoodIn wsX3_wordOf wsX3_isOut := goodIn_r _ [6, 7, 8, 12, 13, 14, 15, 16, 17, 18, 19, 20, 21, 22, 23, 24, 25, 26, 27, 28, 29, 30, 31, 32, 33, 34, 35] (by decide +kernel) (by decide +kernel)
set_option maxRecDepth 20000 in
theorem gX3_wordOf_X3_isOut : GoodIn wsX3_wordOf (wsV RX3 74 RX3 yX3_isOut wsX3_isOut) := goodIn_app (goodIn_of _ (by decide +kernel)) ggX3_wordOf_X3_isOut
set_option maxRecDepth 20000 in
theorem ggX3_wordOf_X3_at : GoodIn wsX3_wordOf wsX3_at := goodIn_r _ [11] (by decide +kernel) (by decide +kernel)
set_option maxRecDepth 20000 in
theorem gX3_wordOf_X3_at : GoodIn wsX3_wordOf (va_wsS RX3 78 yX3_at wsX3_at) := goodIn_app (goodIn_of _ (by decide +kernel)) ggX3_wordOf_X3_at
theorem dX3_wordOf_0 : decode cX3_wordOf 0 = .ok (.aload_n 0, 1) := by decide +kernel
theorem dX3_wordOf_1 : decode cX3_wordOf 1 = .ok (.iload_n 2, 1) := by decide +kernel
theorem dX3_wordOf_2 : decode cX3_wordOf 2 = .ok (.invokevirtual 74, 3) := by decide +kernel
theorem dX3_wordOf_5 : decode cX3_wordOf 5 = .ok (.ifCond .ne 16, 3) := by decide +kernel
theorem dX3_wordOf_8 : decode cX3_wordOf 8 = .ok (.aload_n 0, 1) := by decide +kernel
theorem dX3_wordOf_9 : decode cX3_wordOf 9 = .ok (.getfield 16, 3) := by decide +kernel
theorem dX3_wordOf_12 : decode cX3_wordOf 12 = .ok (.iload_n 2, 1) := by decide +kernel
theorem dX3_wordOf_13 : decode cX3_wordOf 13 = .ok (.iload_n 3, 1) := by decide +kernel
theorem dX3_wordOf_14 : decode cX3_wordOf 14 = .ok (.iload 4, 2) := by decide +kernel
theorem dX3_wordOf_16 : decode cX3_wordOf 16 = .ok (.invokestatic 78, 3) := by decide +kernel
theorem dX3_wordOf_19 : decode cX3_wordOf 19 = .ok (.iaload, 1) := by decide +kernel
theorem dX3_wordOf_20 : decode cX3_wordOf 20 = .ok (.ireturn, 1) := by decide +kernel
theorem dX3_wordOf_21 : decode cX3_wordOf 21 = .ok (.iconst 0, 1) := by decide +kernel
theorem dX3_wordOf_22 : decode cX3_wordOf 22 = .ok (.istore 5, 2) := by decide +kernel
theorem dX3_wordOf_24 : decode cX3_wordOf 24 = .ok (.iconst 0, 1) := by decide +kernel
theorem dX3_wordOf_25 : decode cX3_wordOf 25 = .ok (.istore 6, 2) := by decide +kernel
theorem dX3_wordOf_27 : decode cX3_wordOf 27 = .ok (.iload 6, 2) := by decide +kernel
theorem dX3_wordOf_29 : decode cX3_wordOf 29 = .ok (.iload_n 1, 1) := by decide +kernel
theorem dX3_wordOf_30 : decode cX3_wordOf 30 = .ok (.if_icmp .ge 38, 3) := by decide +kernel
theorem dX3_wordOf_33 : decode cX3_wordOf 33 = .ok (.iload 6, 2) := by decide +kernel
theorem dX3_wordOf_35 : decode cX3_wordOf 35 = .ok (.iload_n 2, 1) := by decide +kernel
theorem dX3_wordOf_36 : decode cX3_wordOf 36 = .ok (.if_icmp .ne 8, 3) := by decide +kernel
theorem dX3_wordOf_39 : decode cX3_wordOf 39 = .ok (.iload 5, 2) := by decide +kernel
theorem dX3_wordOf_41 : decode cX3_wordOf 41 = .ok (.goto 19, 3) := by decide +kernel
theorem dX3_wordOf_44 : decode cX3_wordOf 44 = .ok (.iload 5, 2) := by decide +kernel
theorem dX3_wordOf_46 : decode cX3_wordOf 46 = .ok (.aload_n 0, 1) := by decide +kernel
theorem dX3_wordOf_47 : decode cX3_wordOf 47 = .ok (.getfield 16, 3) := by decide +kernel
theorem dX3_wordOf_50 : decode cX3_wordOf 50 = .ok (.iload 6, 2) := by decide +kernel
theorem dX3_wordOf_52 : decode cX3_wordOf 52 = .ok (.iload_n 3, 1) := by decide +kernel
theorem dX3_wordOf_53 : decode cX3_wordOf 53 = .ok (.iload 4, 2) := by decide +kernel
theorem dX3_wordOf_55 : decode cX3_wordOf 55 = .ok (.invokestatic 78, 3) := by decide +kernel
theorem dX3_wordOf_58 : decode cX3_wordOf 58 = .ok (.iaload, 1) := by decide +kernel
theorem dX3_wordOf_59 : decode cX3_wordOf 59 = .ok (.ixor, 1) := by decide +kernel
theorem dX3_wordOf_60 : decode cX3_wordOf 60 = .ok (.istore 5, 2) := by decide +kernel
theorem dX3_wordOf_62 : decode cX3_wordOf 62 = .ok (.iinc 6 1, 3) := by decide +kernel
theorem dX3_wordOf_65 : decode cX3_wordOf 65 = .ok (.goto (-38), 3) := by decide +kernel
theorem dX3_wordOf_68 : decode cX3_wordOf 68 = .ok (.iload 5, 2) := by decide +kernel
theorem dX3_wordOf_70 : decode cX3_wordOf 70 = .ok (.ireturn, 1) := by decide +kernel
set_option maxRecDepth 20000 in
theorem ggX3_wordAt_X3_capacity : GoodIn wsX3_wordAt wsX3_capacity := goodIn_r _ [8, 2, 41, 42, 43, 44, 45, 46, 47, 48, 49, 50, 51, 52, 53, 54, 55, 56, 57, 58, 59, 60, 61, 62, 63, 64] (by decide +kernel) (by decide +kernel)
set_option maxRecDepth 20000 in
theorem gX3_wordAt_X3_capacity : GoodIn wsX3_wordAt (wsV RX3 82 RX3 yX3_capacity wsX3_capacity) := goodIn_app (goodIn_of _ (by decide +kernel)) ggX3_wordAt_X3_capacity
set_option maxRecDepth 20000 in
theorem ggX3_wordAt_X3_isInWindow : GoodIn wsX3_wordAt wsX3_isInWindow := goodIn_r _ [12, 13, 1, 2, 14, 15, 7, 16, 41, 42, 43, 44, 45, 46, 47, 48, 49, 50, 51, 52, 53, 54, 55, 56, 57, 58, 59, 60, 61, 62, 63, 64] (by decide +kernel) (by decide +kernel)
set_option maxRecDepth 20000 in
theorem gX3_wordAt_X3_isInWindow : GoodIn wsX3_wordAt (wsV RX3 86 RX3 yX3_isInWindow wsX3_isInWindow) := goodIn_app (goodIn_of _ (by decide +kernel)) ggX3_wordAt_X3_isInWindow
set_option maxRecDepth 20000 in
theorem ggX3_wordAt_X3_isOut : GoodIn wsX3_wordAt wsX3_isOut := goodIn_r _ [20, 21, 22, 41, 42, 43, 44, 45, 46, 47, 48, 49, 50, 51, 52, 53, 54, 55, 56, 57, 58, 59, 60, 61, 62, 63, 64] (by decide +kernel) (by decide +kernel)
set_option maxRecDepth 20000 in
theorem gX3_wordAt_X3_isOut : GoodIn wsX3_wordAt (wsV RX3 74 RX3 yX3_isOut wsX3_isOut) := goodIn_app (goodIn_of _ (by decide +kernel)) ggX3_wordAt_X3_isOut
set_option maxRecDepth 20000 in
theorem ggX3_wordAt_X3_at : GoodIn wsX3_wordAt wsX3_at := goodIn_r _ [25] (by decide +kernel) (by decide +kernel)
set_option maxRecDepth 20000 in
theorem gX3_wordAt_X3_at : GoodIn wsX3_wordAt (va_wsS RX3 78 yX3_at wsX3_at) := goodIn_app (goodIn_of _ (by decide +kernel)) ggX3_wordAt_X3_at
set_option maxRecDepth 20000 in
theorem ggX3_wordAt_X3_isNew : GoodIn wsX3_wordAt wsX3_isNew := goodIn_r _ [29, 30, 1, 2, 41, 42, 43, 44, 45, 46, 47, 48, 49, 50, 51, 52, 53, 54, 55, 56, 57, 58, 59, 60, 61, 62, 63, 64] (by decide +kernel) (by decide +kernel)
set_option maxRecDepth 20000 in
theorem gX3_wordAt_X3_isNew : GoodIn wsX3_wordAt (wsV RX3 89 RX3 yX3_isNew wsX3_isNew) := goodIn_app (goodIn_of _ (by decide +kernel)) ggX3_wordAt_X3_isNew
set_option maxRecDepth 20000 in
theorem ggX3_wordAt_X3_dataDisk : GoodIn wsX3_wordAt wsX3_dataDisk := goodIn_r _ [33, 34, 35, 7, 36] (by decide +kernel) (by decide +kernel)
set_option maxRecDepth 20000 in
theorem gX3_wordAt_X3_dataDisk : GoodIn wsX3_wordAt (va_wsS RX3 92 yX3_dataDisk wsX3_dataDisk) := goodIn_app (goodIn_of _ (by decide +kernel)) ggX3_wordAt_X3_dataDisk
set_option maxRecDepth 20000 in
theorem ggX3_wordAt_X3_wordOf : GoodIn wsX3_wordAt wsX3_wordOf := goodIn_r _ [40, 3, 17, 18, 19, 7, 20, 21, 22, 23, 24, 25, 41, 42, 43, 44, 45, 46, 47, 48, 49, 50, 51, 52, 53, 54, 55, 56, 57, 58, 59, 60, 61, 62, 63, 64] (by decide +kernel) (by decide +kernel)
set_option maxRecDepth 20000 in
theorem gX3_wordAt_X3_wordOf : GoodIn wsX3_wordAt (wsV RX3 95 RX3 yX3_wordOf wsX3_wordOf) := goodIn_app (goodIn_of _ (by decide +kernel)) ggX3_wordAt_X3_wordOf
theorem dX3_wordAt_0 : decode cX3_wordAt 0 = .ok (.iload_n 1, 1) := by decide +kernel
theorem dX3_wordAt_1 : decode cX3_wordAt 1 = .ok (.aload_n 0, 1) := by decide +kernel
theorem dX3_wordAt_2 : decode cX3_wordAt 2 = .ok (.invokevirtual 82, 3) := by decide +kernel
theorem dX3_wordAt_5 : decode cX3_wordAt 5 = .ok (.if_icmp .lt 5, 3) := by decide +kernel
theorem dX3_wordAt_8 : decode cX3_wordAt 8 = .ok (.iconst 0, 1) := by decide +kernel
theorem dX3_wordAt_9 : decode cX3_wordAt 9 = .ok (.ireturn, 1) := by decide +kernel
theorem dX3_wordAt_10 : decode cX3_wordAt 10 = .ok (.aload_n 0, 1) := by decide +kernel
theorem dX3_wordAt_11 : decode cX3_wordAt 11 = .ok (.iload_n 1, 1) := by decide +kernel
theorem dX3_wordAt_12 : decode cX3_wordAt 12 = .ok (.invokevirtual 86, 3) := by decide +kernel
theorem dX3_wordAt_15 : decode cX3_wordAt 15 = .ok (.ifCond .eq 48, 3) := by decide +kernel
theorem dX3_wordAt_18 : decode cX3_wordAt 18 = .ok (.bipush 32, 2) := by decide +kernel
theorem dX3_wordAt_20 : decode cX3_wordAt 20 = .ok (.iload_n 1, 1) := by decide +kernel
theorem dX3_wordAt_21 : decode cX3_wordAt 21 = .ok (.iadd, 1) := by decide +kernel
theorem dX3_wordAt_22 : decode cX3_wordAt 22 = .ok (.aload_n 0, 1) := by decide +kernel
theorem dX3_wordAt_23 : decode cX3_wordAt 23 = .ok (.getfield 64, 3) := by decide +kernel
theorem dX3_wordAt_26 : decode cX3_wordAt 26 = .ok (.aload_n 0, 1) := by decide +kernel
theorem dX3_wordAt_27 : decode cX3_wordAt 27 = .ok (.getfield 57, 3) := by decide +kernel
theorem dX3_wordAt_30 : decode cX3_wordAt 30 = .ok (.imul, 1) := by decide +kernel
theorem dX3_wordAt_31 : decode cX3_wordAt 31 = .ok (.isub, 1) := by decide +kernel
theorem dX3_wordAt_32 : decode cX3_wordAt 32 = .ok (.istore_n 3, 1) := by decide +kernel
theorem dX3_wordAt_33 : decode cX3_wordAt 33 = .ok (.aload_n 0, 1) := by decide +kernel
theorem dX3_wordAt_34 : decode cX3_wordAt 34 = .ok (.getfield 16, 3) := by decide +kernel
theorem dX3_wordAt_37 : decode cX3_wordAt 37 = .ok (.aload_n 0, 1) := by decide +kernel
theorem dX3_wordAt_38 : decode cX3_wordAt 38 = .ok (.aload_n 0, 1) := by decide +kernel
theorem dX3_wordAt_39 : decode cX3_wordAt 39 = .ok (.getfield 57, 3) := by decide +kernel
theorem dX3_wordAt_42 : decode cX3_wordAt 42 = .ok (.invokevirtual 74, 3) := by decide +kernel
theorem dX3_wordAt_45 : decode cX3_wordAt 45 = .ok (.ifCond .eq 7, 3) := by decide +kernel
theorem dX3_wordAt_48 : decode cX3_wordAt 48 = .ok (.iconst 0, 1) := by decide +kernel
theorem dX3_wordAt_49 : decode cX3_wordAt 49 = .ok (.goto 7, 3) := by decide +kernel
theorem dX3_wordAt_52 : decode cX3_wordAt 52 = .ok (.aload_n 0, 1) := by decide +kernel
theorem dX3_wordAt_53 : decode cX3_wordAt 53 = .ok (.getfield 57, 3) := by decide +kernel
theorem dX3_wordAt_56 : decode cX3_wordAt 56 = .ok (.iload_n 3, 1) := by decide +kernel
theorem dX3_wordAt_57 : decode cX3_wordAt 57 = .ok (.iload_n 2, 1) := by decide +kernel
theorem dX3_wordAt_58 : decode cX3_wordAt 58 = .ok (.invokestatic 78, 3) := by decide +kernel
theorem dX3_wordAt_61 : decode cX3_wordAt 61 = .ok (.iaload, 1) := by decide +kernel
theorem dX3_wordAt_62 : decode cX3_wordAt 62 = .ok (.ireturn, 1) := by decide +kernel
theorem dX3_wordAt_63 : decode cX3_wordAt 63 = .ok (.aload_n 0, 1) := by decide +kernel
theorem dX3_wordAt_64 : decode cX3_wordAt 64 = .ok (.iload_n 1, 1) := by decide +kernel
theorem dX3_wordAt_65 : decode cX3_wordAt 65 = .ok (.invokevirtual 89, 3) := by decide +kernel
theorem dX3_wordAt_68 : decode cX3_wordAt 68 = .ok (.ifCond .eq 12, 3) := by decide +kernel
theorem dX3_wordAt_71 : decode cX3_wordAt 71 = .ok (.aload_n 0, 1) := by decide +kernel
theorem dX3_wordAt_72 : decode cX3_wordAt 72 = .ok (.getfield 57, 3) := by decide +kernel
theorem dX3_wordAt_75 : decode cX3_wordAt 75 = .ok (.iconst 1, 1) := by decide +kernel
theorem dX3_wordAt_76 : decode cX3_wordAt 76 = .ok (.iadd, 1) := by decide +kernel
theorem dX3_wordAt_77 : decode cX3_wordAt 77 = .ok (.goto 7, 3) := by decide +kernel
theorem dX3_wordAt_80 : decode cX3_wordAt 80 = .ok (.aload_n 0, 1) := by decide +kernel
theorem dX3_wordAt_81 : decode cX3_wordAt 81 = .ok (.getfield 57, 3) := by decide +kernel
theorem dX3_wordAt_84 : decode cX3_wordAt 84 = .ok (.istore_n 3, 1) := by decide +kernel
theorem dX3_wordAt_85 : decode cX3_wordAt 85 = .ok (.iload_n 1, 1) := by decide +kernel
theorem dX3_wordAt_86 : decode cX3_wordAt 86 = .ok (.iload_n 3, 1) := by decide +kernel
theorem dX3_wordAt_87 : decode cX3_wordAt 87 = .ok (.iconst 1, 1) := by decide +kernel
theorem dX3_wordAt_88 : decode cX3_wordAt 88 = .ok (.isub, 1) := by decide +kernel
theorem dX3_wordAt_89 : decode cX3_wordAt 89 = .ok (.idiv, 1) := by decide +kernel
theorem dX3_wordAt_90 : decode cX3_wordAt 90 = .ok (.istore 4, 2) := by decide +kernel
theorem dX3_wordAt_92 : decode cX3_wordAt 92 = .ok (.aload_n 0, 1) := by decide +kernel
theorem dX3_wordAt_93 : decode cX3_wordAt 93 = .ok (.iload_n 3, 1) := by decide +kernel
theorem dX3_wordAt_94 : decode cX3_wordAt 94 = .ok (.iload_n 3, 1) := by decide +kernel
theorem dX3_wordAt_95 : decode cX3_wordAt 95 = .ok (.iload 4, 2) := by decide +kernel
theorem dX3_wordAt_97 : decode cX3_wordAt 97 = .ok (.iload_n 1, 1) := by decide +kernel
theorem dX3_wordAt_98 : decode cX3_wordAt 98 = .ok (.iload_n 3, 1) := by decide +kernel
theorem dX3_wordAt_99 : decode cX3_wordAt 99 = .ok (.iconst 1, 1) := by decide +kernel
theorem dX3_wordAt_100 : decode cX3_wordAt 100 = .ok (.isub, 1) := by decide +kernel
theorem dX3_wordAt_101 : decode cX3_wordAt 101 = .ok (.irem, 1) := by decide +kernel
theorem dX3_wordAt_102 : decode cX3_wordAt 102 = .ok (.invokestatic 92, 3) := by decide +kernel
theorem dX3_wordAt_105 : decode cX3_wordAt 105 = .ok (.iload 4, 2) := by decide +kernel
theorem dX3_wordAt_107 : decode cX3_wordAt 107 = .ok (.iload_n 2, 1) := by decide +kernel
theorem dX3_wordAt_108 : decode cX3_wordAt 108 = .ok (.invokevirtual 95, 3) := by decide +kernel
theorem dX3_wordAt_111 : decode cX3_wordAt 111 = .ok (.ireturn, 1) := by decide +kernel
theorem dX3_issue_0 : decode cX3_issue 0 = .ok (.aload_n 0, 1) := by decide +kernel
theorem dX3_issue_1 : decode cX3_issue 1 = .ok (.getfield 23, 3) := by decide +kernel
theorem dX3_issue_4 : decode cX3_issue 4 = .ok (.aload_n 0, 1) := by decide +kernel
theorem dX3_issue_5 : decode cX3_issue 5 = .ok (.getfield 99, 3) := by decide +kernel
theorem dX3_issue_8 : decode cX3_issue 8 = .ok (.iload_n 1, 1) := by decide +kernel
theorem dX3_issue_9 : decode cX3_issue 9 = .ok (.iastore, 1) := by decide +kernel
theorem dX3_issue_10 : decode cX3_issue 10 = .ok (.aload_n 0, 1) := by decide +kernel
theorem dX3_issue_11 : decode cX3_issue 11 = .ok (.getfield 26, 3) := by decide +kernel
theorem dX3_issue_14 : decode cX3_issue 14 = .ok (.aload_n 0, 1) := by decide +kernel
theorem dX3_issue_15 : decode cX3_issue 15 = .ok (.getfield 99, 3) := by decide +kernel
theorem dX3_issue_18 : decode cX3_issue 18 = .ok (.iload_n 2, 1) := by decide +kernel
theorem dX3_issue_19 : decode cX3_issue 19 = .ok (.iastore, 1) := by decide +kernel
theorem dX3_issue_20 : decode cX3_issue 20 = .ok (.aload_n 0, 1) := by decide +kernel
theorem dX3_issue_21 : decode cX3_issue 21 = .ok (.dup, 1) := by decide +kernel
theorem dX3_issue_22 : decode cX3_issue 22 = .ok (.getfield 99, 3) := by decide +kernel
theorem dX3_issue_25 : decode cX3_issue 25 = .ok (.iconst 1, 1) := by decide +kernel
theorem dX3_issue_26 : decode cX3_issue 26 = .ok (.iadd, 1) := by decide +kernel
theorem dX3_issue_27 : decode cX3_issue 27 = .ok (.putfield 99, 3) := by decide +kernel
theorem dX3_issue_30 : decode cX3_issue 30 = .ok (.return_, 1) := by decide +kernel
set_option maxRecDepth 20000 in
theorem ggX3_issueBlock_X3_issue : GoodIn wsX3_issueBlock wsX3_issue := goodIn_r _ [8, 9, 2, 10, 11, 12, 13, 14, 15, 16, 17, 18, 19, 20, 21, 22, 23, 24, 25, 26, 27, 28, 29, 30, 31, 32, 33, 34] (by decide +kernel) (by decide +kernel)
set_option maxRecDepth 20000 in
theorem gX3_issueBlock_X3_issue : GoodIn wsX3_issueBlock (wsV RX3 102 RX3 yX3_issue wsX3_issue) := goodIn_app (goodIn_of _ (by decide +kernel)) ggX3_issueBlock_X3_issue
theorem dX3_issueBlock_0 : decode cX3_issueBlock 0 = .ok (.iconst 0, 1) := by decide +kernel
theorem dX3_issueBlock_1 : decode cX3_issueBlock 1 = .ok (.istore_n 3, 1) := by decide +kernel
theorem dX3_issueBlock_2 : decode cX3_issueBlock 2 = .ok (.iload_n 3, 1) := by decide +kernel
theorem dX3_issueBlock_3 : decode cX3_issueBlock 3 = .ok (.iconst 4, 1) := by decide +kernel
theorem dX3_issueBlock_4 : decode cX3_issueBlock 4 = .ok (.if_icmp .ge 28, 3) := by decide +kernel
theorem dX3_issueBlock_7 : decode cX3_issueBlock 7 = .ok (.aload_n 0, 1) := by decide +kernel
theorem dX3_issueBlock_8 : decode cX3_issueBlock 8 = .ok (.getfield 29, 3) := by decide +kernel
theorem dX3_issueBlock_11 : decode cX3_issueBlock 11 = .ok (.iconst 5, 1) := by decide +kernel
theorem dX3_issueBlock_12 : decode cX3_issueBlock 12 = .ok (.aload_n 0, 1) := by decide +kernel
theorem dX3_issueBlock_13 : decode cX3_issueBlock 13 = .ok (.getfield 99, 3) := by decide +kernel
theorem dX3_issueBlock_16 : decode cX3_issueBlock 16 = .ok (.imul, 1) := by decide +kernel
theorem dX3_issueBlock_17 : decode cX3_issueBlock 17 = .ok (.iload_n 3, 1) := by decide +kernel
theorem dX3_issueBlock_18 : decode cX3_issueBlock 18 = .ok (.iadd, 1) := by decide +kernel
theorem dX3_issueBlock_19 : decode cX3_issueBlock 19 = .ok (.aload_n 0, 1) := by decide +kernel
theorem dX3_issueBlock_20 : decode cX3_issueBlock 20 = .ok (.getfield 38, 3) := by decide +kernel
theorem dX3_issueBlock_23 : decode cX3_issueBlock 23 = .ok (.iload_n 3, 1) := by decide +kernel
theorem dX3_issueBlock_24 : decode cX3_issueBlock 24 = .ok (.iaload, 1) := by decide +kernel
theorem dX3_issueBlock_25 : decode cX3_issueBlock 25 = .ok (.iastore, 1) := by decide +kernel
theorem dX3_issueBlock_26 : decode cX3_issueBlock 26 = .ok (.iinc 3 1, 3) := by decide +kernel
theorem dX3_issueBlock_29 : decode cX3_issueBlock 29 = .ok (.goto (-27), 3) := by decide +kernel
theorem dX3_issueBlock_32 : decode cX3_issueBlock 32 = .ok (.aload_n 0, 1) := by decide +kernel
theorem dX3_issueBlock_33 : decode cX3_issueBlock 33 = .ok (.iload_n 1, 1) := by decide +kernel
theorem dX3_issueBlock_34 : decode cX3_issueBlock 34 = .ok (.iload_n 2, 1) := by decide +kernel
theorem dX3_issueBlock_35 : decode cX3_issueBlock 35 = .ok (.invokevirtual 102, 3) := by decide +kernel
theorem dX3_issueBlock_38 : decode cX3_issueBlock 38 = .ok (.return_, 1) := by decide +kernel
set_option maxRecDepth 20000 in
theorem ggX3_issueMarks_X3_issue : GoodIn wsX3_issueMarks wsX3_issue := goodIn_r _ [8, 9, 2, 10, 11, 12, 13, 14, 15, 16, 17, 18, 19, 20, 21, 22, 23, 24, 25, 26, 27, 28, 29, 30, 31, 32, 33, 34] (by decide +kernel) (by decide +kernel)
set_option maxRecDepth 20000 in
theorem gX3_issueMarks_X3_issue : GoodIn wsX3_issueMarks (wsV RX3 102 RX3 yX3_issue wsX3_issue) := goodIn_app (goodIn_of _ (by decide +kernel)) ggX3_issueMarks_X3_issue
theorem dX3_issueMarks_0 : decode cX3_issueMarks 0 = .ok (.iconst 0, 1) := by decide +kernel
theorem dX3_issueMarks_1 : decode cX3_issueMarks 1 = .ok (.istore 6, 2) := by decide +kernel
theorem dX3_issueMarks_3 : decode cX3_issueMarks 3 = .ok (.iload 6, 2) := by decide +kernel
theorem dX3_issueMarks_5 : decode cX3_issueMarks 5 = .ok (.iload 5, 2) := by decide +kernel
theorem dX3_issueMarks_7 : decode cX3_issueMarks 7 = .ok (.if_icmp .ge 106, 3) := by decide +kernel
theorem dX3_issueMarks_10 : decode cX3_issueMarks 10 = .ok (.aload_n 0, 1) := by decide +kernel
theorem dX3_issueMarks_11 : decode cX3_issueMarks 11 = .ok (.getfield 29, 3) := by decide +kernel
theorem dX3_issueMarks_14 : decode cX3_issueMarks 14 = .ok (.iconst 5, 1) := by decide +kernel
theorem dX3_issueMarks_15 : decode cX3_issueMarks 15 = .ok (.aload_n 0, 1) := by decide +kernel
theorem dX3_issueMarks_16 : decode cX3_issueMarks 16 = .ok (.getfield 99, 3) := by decide +kernel
theorem dX3_issueMarks_19 : decode cX3_issueMarks 19 = .ok (.imul, 1) := by decide +kernel
theorem dX3_issueMarks_20 : decode cX3_issueMarks 20 = .ok (.aload_n 0, 1) := by decide +kernel
theorem dX3_issueMarks_21 : decode cX3_issueMarks 21 = .ok (.getfield 106, 3) := by decide +kernel
theorem dX3_issueMarks_24 : decode cX3_issueMarks 24 = .ok (.iconst 1, 1) := by decide +kernel
theorem dX3_issueMarks_25 : decode cX3_issueMarks 25 = .ok (.iadd, 1) := by decide +kernel
theorem dX3_issueMarks_26 : decode cX3_issueMarks 26 = .ok (.iastore, 1) := by decide +kernel
theorem dX3_issueMarks_27 : decode cX3_issueMarks 27 = .ok (.aload_n 0, 1) := by decide +kernel
theorem dX3_issueMarks_28 : decode cX3_issueMarks 28 = .ok (.getfield 29, 3) := by decide +kernel
theorem dX3_issueMarks_31 : decode cX3_issueMarks 31 = .ok (.iconst 5, 1) := by decide +kernel
theorem dX3_issueMarks_32 : decode cX3_issueMarks 32 = .ok (.aload_n 0, 1) := by decide +kernel
theorem dX3_issueMarks_33 : decode cX3_issueMarks 33 = .ok (.getfield 99, 3) := by decide +kernel
theorem dX3_issueMarks_36 : decode cX3_issueMarks 36 = .ok (.imul, 1) := by decide +kernel
theorem dX3_issueMarks_37 : decode cX3_issueMarks 37 = .ok (.iconst 1, 1) := by decide +kernel
theorem dX3_issueMarks_38 : decode cX3_issueMarks 38 = .ok (.iadd, 1) := by decide +kernel
theorem dX3_issueMarks_39 : decode cX3_issueMarks 39 = .ok (.iload_n 1, 1) := by decide +kernel
theorem dX3_issueMarks_40 : decode cX3_issueMarks 40 = .ok (.iastore, 1) := by decide +kernel
theorem dX3_issueMarks_41 : decode cX3_issueMarks 41 = .ok (.aload_n 0, 1) := by decide +kernel
theorem dX3_issueMarks_42 : decode cX3_issueMarks 42 = .ok (.getfield 29, 3) := by decide +kernel
theorem dX3_issueMarks_45 : decode cX3_issueMarks 45 = .ok (.iconst 5, 1) := by decide +kernel
theorem dX3_issueMarks_46 : decode cX3_issueMarks 46 = .ok (.aload_n 0, 1) := by decide +kernel
theorem dX3_issueMarks_47 : decode cX3_issueMarks 47 = .ok (.getfield 99, 3) := by decide +kernel
theorem dX3_issueMarks_50 : decode cX3_issueMarks 50 = .ok (.imul, 1) := by decide +kernel
theorem dX3_issueMarks_51 : decode cX3_issueMarks 51 = .ok (.iconst 2, 1) := by decide +kernel
theorem dX3_issueMarks_52 : decode cX3_issueMarks 52 = .ok (.iadd, 1) := by decide +kernel
theorem dX3_issueMarks_53 : decode cX3_issueMarks 53 = .ok (.iload_n 2, 1) := by decide +kernel
theorem dX3_issueMarks_54 : decode cX3_issueMarks 54 = .ok (.ifCond .eq 7, 3) := by decide +kernel
theorem dX3_issueMarks_57 : decode cX3_issueMarks 57 = .ok (.iconst 1, 1) := by decide +kernel
theorem dX3_issueMarks_58 : decode cX3_issueMarks 58 = .ok (.goto 4, 3) := by decide +kernel
theorem dX3_issueMarks_61 : decode cX3_issueMarks 61 = .ok (.iconst 0, 1) := by decide +kernel
theorem dX3_issueMarks_62 : decode cX3_issueMarks 62 = .ok (.iastore, 1) := by decide +kernel
theorem dX3_issueMarks_63 : decode cX3_issueMarks 63 = .ok (.aload_n 0, 1) := by decide +kernel
theorem dX3_issueMarks_64 : decode cX3_issueMarks 64 = .ok (.getfield 29, 3) := by decide +kernel
theorem dX3_issueMarks_67 : decode cX3_issueMarks 67 = .ok (.iconst 5, 1) := by decide +kernel
theorem dX3_issueMarks_68 : decode cX3_issueMarks 68 = .ok (.aload_n 0, 1) := by decide +kernel
theorem dX3_issueMarks_69 : decode cX3_issueMarks 69 = .ok (.getfield 99, 3) := by decide +kernel
theorem dX3_issueMarks_72 : decode cX3_issueMarks 72 = .ok (.imul, 1) := by decide +kernel
theorem dX3_issueMarks_73 : decode cX3_issueMarks 73 = .ok (.iconst 3, 1) := by decide +kernel
theorem dX3_issueMarks_74 : decode cX3_issueMarks 74 = .ok (.iadd, 1) := by decide +kernel
theorem dX3_issueMarks_75 : decode cX3_issueMarks 75 = .ok (.iload_n 3, 1) := by decide +kernel
theorem dX3_issueMarks_76 : decode cX3_issueMarks 76 = .ok (.iastore, 1) := by decide +kernel
theorem dX3_issueMarks_77 : decode cX3_issueMarks 77 = .ok (.aload_n 0, 1) := by decide +kernel
theorem dX3_issueMarks_78 : decode cX3_issueMarks 78 = .ok (.getfield 29, 3) := by decide +kernel
theorem dX3_issueMarks_81 : decode cX3_issueMarks 81 = .ok (.iconst 5, 1) := by decide +kernel
theorem dX3_issueMarks_82 : decode cX3_issueMarks 82 = .ok (.aload_n 0, 1) := by decide +kernel
theorem dX3_issueMarks_83 : decode cX3_issueMarks 83 = .ok (.getfield 99, 3) := by decide +kernel
theorem dX3_issueMarks_86 : decode cX3_issueMarks 86 = .ok (.imul, 1) := by decide +kernel
theorem dX3_issueMarks_87 : decode cX3_issueMarks 87 = .ok (.iconst 4, 1) := by decide +kernel
theorem dX3_issueMarks_88 : decode cX3_issueMarks 88 = .ok (.iadd, 1) := by decide +kernel
theorem dX3_issueMarks_89 : decode cX3_issueMarks 89 = .ok (.iload 4, 2) := by decide +kernel
theorem dX3_issueMarks_91 : decode cX3_issueMarks 91 = .ok (.ifCond .eq 7, 3) := by decide +kernel
theorem dX3_issueMarks_94 : decode cX3_issueMarks 94 = .ok (.iconst 1, 1) := by decide +kernel
theorem dX3_issueMarks_95 : decode cX3_issueMarks 95 = .ok (.goto 4, 3) := by decide +kernel
theorem dX3_issueMarks_98 : decode cX3_issueMarks 98 = .ok (.iconst 0, 1) := by decide +kernel
theorem dX3_issueMarks_99 : decode cX3_issueMarks 99 = .ok (.iastore, 1) := by decide +kernel
theorem dX3_issueMarks_100 : decode cX3_issueMarks 100 = .ok (.aload_n 0, 1) := by decide +kernel
theorem dX3_issueMarks_101 : decode cX3_issueMarks 101 = .ok (.iload 6, 2) := by decide +kernel
theorem dX3_issueMarks_103 : decode cX3_issueMarks 103 = .ok (.iconst (-1), 1) := by decide +kernel
theorem dX3_issueMarks_104 : decode cX3_issueMarks 104 = .ok (.invokevirtual 102, 3) := by decide +kernel
theorem dX3_issueMarks_107 : decode cX3_issueMarks 107 = .ok (.iinc 6 1, 3) := by decide +kernel
theorem dX3_issueMarks_110 : decode cX3_issueMarks 110 = .ok (.goto (-107), 3) := by decide +kernel
theorem dX3_issueMarks_113 : decode cX3_issueMarks 113 = .ok (.return_, 1) := by decide +kernel
set_option maxRecDepth 20000 in
theorem ggX3_perform_X3_isOut : GoodIn wsX3_perform wsX3_isOut := goodIn_r _ [10, 11, 12, 16, 17, 18, 19, 20, 21, 22, 23, 24, 25, 26, 27, 28, 29, 30, 31, 32, 33, 34, 35, 36, 37, 38, 39] (by decide +kernel) (by decide +kernel)
set_option maxRecDepth 20000 in
theorem gX3_perform_X3_isOut : GoodIn wsX3_perform (wsV RX3 74 RX3 yX3_isOut wsX3_isOut) := goodIn_app (goodIn_of _ (by decide +kernel)) ggX3_perform_X3_isOut
set_option maxRecDepth 20000 in
theorem ggX3_perform_X3_at : GoodIn wsX3_perform wsX3_at := goodIn_r _ [15] (by decide +kernel) (by decide +kernel)
set_option maxRecDepth 20000 in
theorem gX3_perform_X3_at : GoodIn wsX3_perform (va_wsS RX3 78 yX3_at wsX3_at) := goodIn_app (goodIn_of _ (by decide +kernel)) ggX3_perform_X3_at
theorem dX3_perform_0 : decode cX3_perform 0 = .ok (.aload_n 0, 1) := by decide +kernel
theorem dX3_perform_1 : decode cX3_perform 1 = .ok (.getfield 23, 3) := by decide +kernel
theorem dX3_perform_4 : decode cX3_perform 4 = .ok (.iload_n 1, 1) := by decide +kernel
theorem dX3_perform_5 : decode cX3_perform 5 = .ok (.iaload, 1) := by decide +kernel
theorem dX3_perform_6 : decode cX3_perform 6 = .ok (.istore_n 2, 1) := by decide +kernel
theorem dX3_perform_7 : decode cX3_perform 7 = .ok (.aload_n 0, 1) := by decide +kernel
theorem dX3_perform_8 : decode cX3_perform 8 = .ok (.iload_n 2, 1) := by decide +kernel
theorem dX3_perform_9 : decode cX3_perform 9 = .ok (.invokevirtual 74, 3) := by decide +kernel
theorem dX3_perform_12 : decode cX3_perform 12 = .ok (.ifCond .eq 4, 3) := by decide +kernel
theorem dX3_perform_15 : decode cX3_perform 15 = .ok (.return_, 1) := by decide +kernel
theorem dX3_perform_16 : decode cX3_perform 16 = .ok (.aload_n 0, 1) := by decide +kernel
theorem dX3_perform_17 : decode cX3_perform 17 = .ok (.getfield 26, 3) := by decide +kernel
theorem dX3_perform_20 : decode cX3_perform 20 = .ok (.iload_n 1, 1) := by decide +kernel
theorem dX3_perform_21 : decode cX3_perform 21 = .ok (.iaload, 1) := by decide +kernel
