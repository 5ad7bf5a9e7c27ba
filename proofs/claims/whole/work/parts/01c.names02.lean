theorem dX2_diskCount_0 : decode cX2_diskCount 0 = .ok (.aload_n 0, 1) := by decide +kernel
theorem dX2_diskCount_1 : decode cX2_diskCount 1 = .ok (.getfield 18, 3) := by decide +kernel
theorem dX2_diskCount_4 : decode cX2_diskCount 4 = .ok (.getfield 102, 3) := by decide +kernel
theorem dX2_diskCount_7 : decode cX2_diskCount 7 = .ok (.ifCond .eq 15, 3) := by decide +kernel
theorem dX2_diskCount_10 : decode cX2_diskCount 10 = .ok (.aload_n 0, 1) := by decide +kernel
theorem dX2_diskCount_11 : decode cX2_diskCount 11 = .ok (.getfield 18, 3) := by decide +kernel
theorem dX2_diskCount_14 : decode cX2_diskCount 14 = .ok (.getfield 58, 3) := by decide +kernel
theorem dX2_diskCount_17 : decode cX2_diskCount 17 = .ok (.iconst 1, 1) := by decide +kernel
theorem dX2_diskCount_18 : decode cX2_diskCount 18 = .ok (.iadd, 1) := by decide +kernel
theorem dX2_diskCount_19 : decode cX2_diskCount 19 = .ok (.goto 10, 3) := by decide +kernel
theorem dX2_diskCount_22 : decode cX2_diskCount 22 = .ok (.aload_n 0, 1) := by decide +kernel
theorem dX2_diskCount_23 : decode cX2_diskCount 23 = .ok (.getfield 18, 3) := by decide +kernel
theorem dX2_diskCount_26 : decode cX2_diskCount 26 = .ok (.getfield 58, 3) := by decide +kernel
theorem dX2_diskCount_29 : decode cX2_diskCount 29 = .ok (.ireturn, 1) := by decide +kernel
theorem dX2_capacity_0 : decode cX2_capacity 0 = .ok (.bipush 32, 2) := by decide +kernel
theorem dX2_capacity_2 : decode cX2_capacity 2 = .ok (.aload_n 0, 1) := by decide +kernel
theorem dX2_capacity_3 : decode cX2_capacity 3 = .ok (.getfield 18, 3) := by decide +kernel
theorem dX2_capacity_6 : decode cX2_capacity 6 = .ok (.getfield 58, 3) := by decide +kernel
theorem dX2_capacity_9 : decode cX2_capacity 9 = .ok (.iconst 1, 1) := by decide +kernel
theorem dX2_capacity_10 : decode cX2_capacity 10 = .ok (.isub, 1) := by decide +kernel
theorem dX2_capacity_11 : decode cX2_capacity 11 = .ok (.imul, 1) := by decide +kernel
theorem dX2_capacity_12 : decode cX2_capacity 12 = .ok (.ireturn, 1) := by decide +kernel
theorem dX2_absentDisk_0 : decode cX2_absentDisk 0 = .ok (.aload_n 0, 1) := by decide +kernel
theorem dX2_absentDisk_1 : decode cX2_absentDisk 1 = .ok (.getfield 29, 3) := by decide +kernel
theorem dX2_absentDisk_4 : decode cX2_absentDisk 4 = .ok (.iconst (-1), 1) := by decide +kernel
theorem dX2_absentDisk_5 : decode cX2_absentDisk 5 = .ok (.if_icmp .eq 10, 3) := by decide +kernel
theorem dX2_absentDisk_8 : decode cX2_absentDisk 8 = .ok (.aload_n 0, 1) := by decide +kernel
theorem dX2_absentDisk_9 : decode cX2_absentDisk 9 = .ok (.getfield 29, 3) := by decide +kernel
theorem dX2_absentDisk_12 : decode cX2_absentDisk 12 = .ok (.goto 7, 3) := by decide +kernel
theorem dX2_absentDisk_15 : decode cX2_absentDisk 15 = .ok (.aload_n 0, 1) := by decide +kernel
theorem dX2_absentDisk_16 : decode cX2_absentDisk 16 = .ok (.getfield 33, 3) := by decide +kernel
theorem dX2_absentDisk_19 : decode cX2_absentDisk 19 = .ok (.ireturn, 1) := by decide +kernel
theorem dX2_firstOfWindow_0 : decode cX2_firstOfWindow 0 = .ok (.aload_n 0, 1) := by decide +kernel
theorem dX2_firstOfWindow_1 : decode cX2_firstOfWindow 1 = .ok (.getfield 18, 3) := by decide +kernel
theorem dX2_firstOfWindow_4 : decode cX2_firstOfWindow 4 = .ok (.getfield 110, 3) := by decide +kernel
theorem dX2_firstOfWindow_7 : decode cX2_firstOfWindow 7 = .ok (.aload_n 0, 1) := by decide +kernel
theorem dX2_firstOfWindow_8 : decode cX2_firstOfWindow 8 = .ok (.getfield 18, 3) := by decide +kernel
theorem dX2_firstOfWindow_11 : decode cX2_firstOfWindow 11 = .ok (.getfield 58, 3) := by decide +kernel
theorem dX2_firstOfWindow_14 : decode cX2_firstOfWindow 14 = .ok (.imul, 1) := by decide +kernel
theorem dX2_firstOfWindow_15 : decode cX2_firstOfWindow 15 = .ok (.ireturn, 1) := by decide +kernel
set_option maxRecDepth 20000 in
theorem ggX2_placeOf_X2_firstOfWindow : GoodIn wsX2_placeOf wsX2_firstOfWindow := goodIn_r _ [6, 1, 7, 8, 9, 10, 11, 12, 13, 14, 15, 16, 17, 18, 19, 20, 21] (by decide +kernel) (by decide +kernel)
set_option maxRecDepth 20000 in
theorem gX2_placeOf_X2_firstOfWindow : GoodIn wsX2_placeOf (wsV RX2 211 RX2 yX2_firstOfWindow wsX2_firstOfWindow) := goodIn_app (goodIn_of _ (by decide +kernel)) ggX2_placeOf_X2_firstOfWindow
theorem dX2_placeOf_0 : decode cX2_placeOf 0 = .ok (.aload_n 0, 1) := by decide +kernel
theorem dX2_placeOf_1 : decode cX2_placeOf 1 = .ok (.getfield 18, 3) := by decide +kernel
theorem dX2_placeOf_4 : decode cX2_placeOf 4 = .ok (.getfield 102, 3) := by decide +kernel
theorem dX2_placeOf_7 : decode cX2_placeOf 7 = .ok (.ifCond .ne 5, 3) := by decide +kernel
theorem dX2_placeOf_10 : decode cX2_placeOf 10 = .ok (.iconst 0, 1) := by decide +kernel
theorem dX2_placeOf_11 : decode cX2_placeOf 11 = .ok (.ireturn, 1) := by decide +kernel
theorem dX2_placeOf_12 : decode cX2_placeOf 12 = .ok (.iload_n 1, 1) := by decide +kernel
theorem dX2_placeOf_13 : decode cX2_placeOf 13 = .ok (.aload_n 0, 1) := by decide +kernel
theorem dX2_placeOf_14 : decode cX2_placeOf 14 = .ok (.invokevirtual 211, 3) := by decide +kernel
theorem dX2_placeOf_17 : decode cX2_placeOf 17 = .ok (.if_icmp .ge 5, 3) := by decide +kernel
theorem dX2_placeOf_20 : decode cX2_placeOf 20 = .ok (.iconst 1, 1) := by decide +kernel
theorem dX2_placeOf_21 : decode cX2_placeOf 21 = .ok (.ireturn, 1) := by decide +kernel
theorem dX2_placeOf_22 : decode cX2_placeOf 22 = .ok (.aload_n 0, 1) := by decide +kernel
theorem dX2_placeOf_23 : decode cX2_placeOf 23 = .ok (.getfield 18, 3) := by decide +kernel
theorem dX2_placeOf_26 : decode cX2_placeOf 26 = .ok (.getfield 113, 3) := by decide +kernel
theorem dX2_placeOf_29 : decode cX2_placeOf 29 = .ok (.ifCond .eq 23, 3) := by decide +kernel
theorem dX2_placeOf_32 : decode cX2_placeOf 32 = .ok (.iload_n 1, 1) := by decide +kernel
theorem dX2_placeOf_33 : decode cX2_placeOf 33 = .ok (.aload_n 0, 1) := by decide +kernel
theorem dX2_placeOf_34 : decode cX2_placeOf 34 = .ok (.invokevirtual 211, 3) := by decide +kernel
theorem dX2_placeOf_37 : decode cX2_placeOf 37 = .ok (.aload_n 0, 1) := by decide +kernel
theorem dX2_placeOf_38 : decode cX2_placeOf 38 = .ok (.getfield 18, 3) := by decide +kernel
theorem dX2_placeOf_41 : decode cX2_placeOf 41 = .ok (.getfield 58, 3) := by decide +kernel
theorem dX2_placeOf_44 : decode cX2_placeOf 44 = .ok (.iadd, 1) := by decide +kernel
theorem dX2_placeOf_45 : decode cX2_placeOf 45 = .ok (.if_icmp .ge 7, 3) := by decide +kernel
theorem dX2_placeOf_48 : decode cX2_placeOf 48 = .ok (.iconst 2, 1) := by decide +kernel
theorem dX2_placeOf_49 : decode cX2_placeOf 49 = .ok (.goto 4, 3) := by decide +kernel
theorem dX2_placeOf_52 : decode cX2_placeOf 52 = .ok (.iconst 0, 1) := by decide +kernel
theorem dX2_placeOf_53 : decode cX2_placeOf 53 = .ok (.ireturn, 1) := by decide +kernel
theorem dX2_widthIn_0 : decode cX2_widthIn 0 = .ok (.iload_n 1, 1) := by decide +kernel
theorem dX2_widthIn_1 : decode cX2_widthIn 1 = .ok (.iconst 1, 1) := by decide +kernel
theorem dX2_widthIn_2 : decode cX2_widthIn 2 = .ok (.if_icmp .ne 15, 3) := by decide +kernel
theorem dX2_widthIn_5 : decode cX2_widthIn 5 = .ok (.aload_n 0, 1) := by decide +kernel
theorem dX2_widthIn_6 : decode cX2_widthIn 6 = .ok (.getfield 18, 3) := by decide +kernel
theorem dX2_widthIn_9 : decode cX2_widthIn 9 = .ok (.getfield 58, 3) := by decide +kernel
theorem dX2_widthIn_12 : decode cX2_widthIn 12 = .ok (.iconst 1, 1) := by decide +kernel
theorem dX2_widthIn_13 : decode cX2_widthIn 13 = .ok (.iadd, 1) := by decide +kernel
theorem dX2_widthIn_14 : decode cX2_widthIn 14 = .ok (.goto 10, 3) := by decide +kernel
theorem dX2_widthIn_17 : decode cX2_widthIn 17 = .ok (.aload_n 0, 1) := by decide +kernel
theorem dX2_widthIn_18 : decode cX2_widthIn 18 = .ok (.getfield 18, 3) := by decide +kernel
theorem dX2_widthIn_21 : decode cX2_widthIn 21 = .ok (.getfield 58, 3) := by decide +kernel
theorem dX2_widthIn_24 : decode cX2_widthIn 24 = .ok (.ireturn, 1) := by decide +kernel
theorem dX2_widthOfRow_0 : decode cX2_widthOfRow 0 = .ok (.aload_n 0, 1) := by decide +kernel
theorem dX2_widthOfRow_1 : decode cX2_widthOfRow 1 = .ok (.getfield 18, 3) := by decide +kernel
theorem dX2_widthOfRow_4 : decode cX2_widthOfRow 4 = .ok (.getfield 102, 3) := by decide +kernel
theorem dX2_widthOfRow_7 : decode cX2_widthOfRow 7 = .ok (.ifCond .eq 26, 3) := by decide +kernel
theorem dX2_widthOfRow_10 : decode cX2_widthOfRow 10 = .ok (.iload_n 1, 1) := by decide +kernel
theorem dX2_widthOfRow_11 : decode cX2_widthOfRow 11 = .ok (.aload_n 0, 1) := by decide +kernel
theorem dX2_widthOfRow_12 : decode cX2_widthOfRow 12 = .ok (.getfield 18, 3) := by decide +kernel
theorem dX2_widthOfRow_15 : decode cX2_widthOfRow 15 = .ok (.getfield 110, 3) := by decide +kernel
theorem dX2_widthOfRow_18 : decode cX2_widthOfRow 18 = .ok (.if_icmp .ge 15, 3) := by decide +kernel
theorem dX2_widthOfRow_21 : decode cX2_widthOfRow 21 = .ok (.aload_n 0, 1) := by decide +kernel
theorem dX2_widthOfRow_22 : decode cX2_widthOfRow 22 = .ok (.getfield 18, 3) := by decide +kernel
theorem dX2_widthOfRow_25 : decode cX2_widthOfRow 25 = .ok (.getfield 58, 3) := by decide +kernel
theorem dX2_widthOfRow_28 : decode cX2_widthOfRow 28 = .ok (.iconst 1, 1) := by decide +kernel
theorem dX2_widthOfRow_29 : decode cX2_widthOfRow 29 = .ok (.iadd, 1) := by decide +kernel
theorem dX2_widthOfRow_30 : decode cX2_widthOfRow 30 = .ok (.goto 10, 3) := by decide +kernel
theorem dX2_widthOfRow_33 : decode cX2_widthOfRow 33 = .ok (.aload_n 0, 1) := by decide +kernel
theorem dX2_widthOfRow_34 : decode cX2_widthOfRow 34 = .ok (.getfield 18, 3) := by decide +kernel
theorem dX2_widthOfRow_37 : decode cX2_widthOfRow 37 = .ok (.getfield 58, 3) := by decide +kernel
theorem dX2_widthOfRow_40 : decode cX2_widthOfRow 40 = .ok (.ireturn, 1) := by decide +kernel
theorem dX2_isBeingLaid_0 : decode cX2_isBeingLaid 0 = .ok (.aload_n 0, 1) := by decide +kernel
theorem dX2_isBeingLaid_1 : decode cX2_isBeingLaid 1 = .ok (.getfield 18, 3) := by decide +kernel
theorem dX2_isBeingLaid_4 : decode cX2_isBeingLaid 4 = .ok (.getfield 113, 3) := by decide +kernel
theorem dX2_isBeingLaid_7 : decode cX2_isBeingLaid 7 = .ok (.ifCond .eq 18, 3) := by decide +kernel
theorem dX2_isBeingLaid_10 : decode cX2_isBeingLaid 10 = .ok (.iload_n 1, 1) := by decide +kernel
theorem dX2_isBeingLaid_11 : decode cX2_isBeingLaid 11 = .ok (.aload_n 0, 1) := by decide +kernel
theorem dX2_isBeingLaid_12 : decode cX2_isBeingLaid 12 = .ok (.getfield 18, 3) := by decide +kernel
theorem dX2_isBeingLaid_15 : decode cX2_isBeingLaid 15 = .ok (.getfield 110, 3) := by decide +kernel
theorem dX2_isBeingLaid_18 : decode cX2_isBeingLaid 18 = .ok (.if_icmp .ne 7, 3) := by decide +kernel
theorem dX2_isBeingLaid_21 : decode cX2_isBeingLaid 21 = .ok (.iconst 1, 1) := by decide +kernel
theorem dX2_isBeingLaid_22 : decode cX2_isBeingLaid 22 = .ok (.goto 4, 3) := by decide +kernel
theorem dX2_isBeingLaid_25 : decode cX2_isBeingLaid 25 = .ok (.iconst 0, 1) := by decide +kernel
theorem dX2_isBeingLaid_26 : decode cX2_isBeingLaid 26 = .ok (.ireturn, 1) := by decide +kernel
theorem dX2_parityDisk_0 : decode cX2_parityDisk 0 = .ok (.iload_n 0, 1) := by decide +kernel
theorem dX2_parityDisk_1 : decode cX2_parityDisk 1 = .ok (.iconst 1, 1) := by decide +kernel
theorem dX2_parityDisk_2 : decode cX2_parityDisk 2 = .ok (.isub, 1) := by decide +kernel
theorem dX2_parityDisk_3 : decode cX2_parityDisk 3 = .ok (.iload_n 1, 1) := by decide +kernel
theorem dX2_parityDisk_4 : decode cX2_parityDisk 4 = .ok (.iload_n 0, 1) := by decide +kernel
theorem dX2_parityDisk_5 : decode cX2_parityDisk 5 = .ok (.irem, 1) := by decide +kernel
theorem dX2_parityDisk_6 : decode cX2_parityDisk 6 = .ok (.isub, 1) := by decide +kernel
theorem dX2_parityDisk_7 : decode cX2_parityDisk 7 = .ok (.ireturn, 1) := by decide +kernel
set_option maxRecDepth 20000 in
theorem ggX2_dataDisk_X2_parityDisk : GoodIn wsX2_dataDisk wsX2_parityDisk := goodIn_r _ [4] (by decide +kernel) (by decide +kernel)
set_option maxRecDepth 20000 in
theorem gX2_dataDisk_X2_parityDisk : GoodIn wsX2_dataDisk (va_wsS RX2 214 yX2_parityDisk wsX2_parityDisk) := goodIn_app (goodIn_of _ (by decide +kernel)) ggX2_dataDisk_X2_parityDisk
theorem dX2_dataDisk_0 : decode cX2_dataDisk 0 = .ok (.iload_n 0, 1) := by decide +kernel
theorem dX2_dataDisk_1 : decode cX2_dataDisk 1 = .ok (.iload_n 1, 1) := by decide +kernel
theorem dX2_dataDisk_2 : decode cX2_dataDisk 2 = .ok (.invokestatic 214, 3) := by decide +kernel
theorem dX2_dataDisk_5 : decode cX2_dataDisk 5 = .ok (.iconst 1, 1) := by decide +kernel
theorem dX2_dataDisk_6 : decode cX2_dataDisk 6 = .ok (.iadd, 1) := by decide +kernel
theorem dX2_dataDisk_7 : decode cX2_dataDisk 7 = .ok (.iload_n 2, 1) := by decide +kernel
theorem dX2_dataDisk_8 : decode cX2_dataDisk 8 = .ok (.iadd, 1) := by decide +kernel
theorem dX2_dataDisk_9 : decode cX2_dataDisk 9 = .ok (.iload_n 0, 1) := by decide +kernel
theorem dX2_dataDisk_10 : decode cX2_dataDisk 10 = .ok (.irem, 1) := by decide +kernel
theorem dX2_dataDisk_11 : decode cX2_dataDisk 11 = .ok (.ireturn, 1) := by decide +kernel
set_option maxRecDepth 20000 in
theorem ggX2_wordOfBlock_X2_placeOf : GoodIn wsX2_wordOfBlock wsX2_placeOf := goodIn_r _ [5, 6, 7, 8, 9, 4, 10, 46, 47, 48, 49, 50, 51, 52, 53, 54, 55, 56, 57, 58, 59, 60] (by decide +kernel) (by decide +kernel)
set_option maxRecDepth 20000 in
theorem gX2_wordOfBlock_X2_placeOf : GoodIn wsX2_wordOfBlock (wsV RX2 79 RX2 yX2_placeOf wsX2_placeOf) := goodIn_app (goodIn_of _ (by decide +kernel)) ggX2_wordOfBlock_X2_placeOf
set_option maxRecDepth 20000 in
theorem ggX2_wordOfBlock_X2_firstOfWindow : GoodIn wsX2_wordOfBlock wsX2_firstOfWindow := goodIn_r _ [10, 6, 46, 47, 48, 49, 50, 51, 52, 53, 54, 55, 56, 57, 58, 59, 60] (by decide +kernel) (by decide +kernel)
set_option maxRecDepth 20000 in
theorem gX2_wordOfBlock_X2_firstOfWindow : GoodIn wsX2_wordOfBlock (wsV RX2 211 RX2 yX2_firstOfWindow wsX2_firstOfWindow) := goodIn_app (goodIn_of _ (by decide +kernel)) ggX2_wordOfBlock_X2_firstOfWindow
set_option maxRecDepth 20000 in
theorem ggX2_wordOfBlock_X2_wordOfStash : GoodIn wsX2_wordOfBlock wsX2_wordOfStash := goodIn_r _ [14, 6, 15, 16, 17, 18, 4, 19, 20, 21, 22, 23, 24, 25, 26, 27, 46, 47, 48, 49, 50, 51, 52, 53, 54, 55, 56, 57, 58, 59, 60, 61, 62, 63, 64, 65, 66, 67] (by decide +kernel) (by decide +kernel)
set_option maxRecDepth 20000 in
theorem gX2_wordOfBlock_X2_wordOfStash : GoodIn wsX2_wordOfBlock (wsV RX2 217 RX2 yX2_wordOfStash wsX2_wordOfStash) := goodIn_app (goodIn_of _ (by decide +kernel)) ggX2_wordOfBlock_X2_wordOfStash
set_option maxRecDepth 20000 in
theorem ggX2_wordOfBlock_X2_widthIn : GoodIn wsX2_wordOfBlock wsX2_widthIn := goodIn_r _ [31, 6, 46, 47, 48, 49, 50, 51, 52, 53, 54, 55, 56, 57, 58, 59, 60] (by decide +kernel) (by decide +kernel)
set_option maxRecDepth 20000 in
theorem gX2_wordOfBlock_X2_widthIn : GoodIn wsX2_wordOfBlock (wsV RX2 87 RX2 yX2_widthIn wsX2_widthIn) := goodIn_app (goodIn_of _ (by decide +kernel)) ggX2_wordOfBlock_X2_widthIn
set_option maxRecDepth 20000 in
theorem ggX2_wordOfBlock_X2_dataDisk : GoodIn wsX2_wordOfBlock wsX2_dataDisk := goodIn_r _ [34, 35, 36, 4, 37] (by decide +kernel) (by decide +kernel)
set_option maxRecDepth 20000 in
theorem gX2_wordOfBlock_X2_dataDisk : GoodIn wsX2_wordOfBlock (va_wsS RX2 220 yX2_dataDisk wsX2_dataDisk) := goodIn_app (goodIn_of _ (by decide +kernel)) ggX2_wordOfBlock_X2_dataDisk
set_option maxRecDepth 20000 in
theorem ggX2_wordOfBlock_X2_wordTold : GoodIn wsX2_wordOfBlock wsX2_wordTold := goodIn_r _ [41, 15, 16, 17, 18, 4, 19, 20, 21, 42, 43, 44, 45, 22, 23, 24, 25, 26, 27, 46, 47, 48, 49, 50, 51, 52, 53, 54, 55, 61, 62, 63, 64, 65, 66, 67] (by decide +kernel) (by decide +kernel)
set_option maxRecDepth 20000 in
theorem gX2_wordOfBlock_X2_wordTold : GoodIn wsX2_wordOfBlock (wsV RX2 224 RX2 yX2_wordTold wsX2_wordTold) := goodIn_app (goodIn_of _ (by decide +kernel)) ggX2_wordOfBlock_X2_wordTold
theorem dX2_wordOfBlock_0 : decode cX2_wordOfBlock 0 = .ok (.aload_n 0, 1) := by decide +kernel
theorem dX2_wordOfBlock_1 : decode cX2_wordOfBlock 1 = .ok (.iload_n 1, 1) := by decide +kernel
theorem dX2_wordOfBlock_2 : decode cX2_wordOfBlock 2 = .ok (.invokevirtual 79, 3) := by decide +kernel
theorem dX2_wordOfBlock_5 : decode cX2_wordOfBlock 5 = .ok (.istore_n 3, 1) := by decide +kernel
theorem dX2_wordOfBlock_6 : decode cX2_wordOfBlock 6 = .ok (.iload_n 3, 1) := by decide +kernel
theorem dX2_wordOfBlock_7 : decode cX2_wordOfBlock 7 = .ok (.iconst 2, 1) := by decide +kernel
theorem dX2_wordOfBlock_8 : decode cX2_wordOfBlock 8 = .ok (.if_icmp .ne 15, 3) := by decide +kernel
theorem dX2_wordOfBlock_11 : decode cX2_wordOfBlock 11 = .ok (.aload_n 0, 1) := by decide +kernel
theorem dX2_wordOfBlock_12 : decode cX2_wordOfBlock 12 = .ok (.iload_n 1, 1) := by decide +kernel
theorem dX2_wordOfBlock_13 : decode cX2_wordOfBlock 13 = .ok (.aload_n 0, 1) := by decide +kernel
theorem dX2_wordOfBlock_14 : decode cX2_wordOfBlock 14 = .ok (.invokevirtual 211, 3) := by decide +kernel
theorem dX2_wordOfBlock_17 : decode cX2_wordOfBlock 17 = .ok (.isub, 1) := by decide +kernel
theorem dX2_wordOfBlock_18 : decode cX2_wordOfBlock 18 = .ok (.iload_n 2, 1) := by decide +kernel
theorem dX2_wordOfBlock_19 : decode cX2_wordOfBlock 19 = .ok (.invokevirtual 217, 3) := by decide +kernel
theorem dX2_wordOfBlock_22 : decode cX2_wordOfBlock 22 = .ok (.ireturn, 1) := by decide +kernel
theorem dX2_wordOfBlock_23 : decode cX2_wordOfBlock 23 = .ok (.aload_n 0, 1) := by decide +kernel
theorem dX2_wordOfBlock_24 : decode cX2_wordOfBlock 24 = .ok (.iload_n 3, 1) := by decide +kernel
theorem dX2_wordOfBlock_25 : decode cX2_wordOfBlock 25 = .ok (.invokevirtual 87, 3) := by decide +kernel
theorem dX2_wordOfBlock_28 : decode cX2_wordOfBlock 28 = .ok (.istore 4, 2) := by decide +kernel
theorem dX2_wordOfBlock_30 : decode cX2_wordOfBlock 30 = .ok (.iload_n 1, 1) := by decide +kernel
theorem dX2_wordOfBlock_31 : decode cX2_wordOfBlock 31 = .ok (.iload 4, 2) := by decide +kernel
theorem dX2_wordOfBlock_33 : decode cX2_wordOfBlock 33 = .ok (.iconst 1, 1) := by decide +kernel
theorem dX2_wordOfBlock_34 : decode cX2_wordOfBlock 34 = .ok (.isub, 1) := by decide +kernel
theorem dX2_wordOfBlock_35 : decode cX2_wordOfBlock 35 = .ok (.idiv, 1) := by decide +kernel
theorem dX2_wordOfBlock_36 : decode cX2_wordOfBlock 36 = .ok (.istore 5, 2) := by decide +kernel
theorem dX2_wordOfBlock_38 : decode cX2_wordOfBlock 38 = .ok (.aload_n 0, 1) := by decide +kernel
theorem dX2_wordOfBlock_39 : decode cX2_wordOfBlock 39 = .ok (.iload 4, 2) := by decide +kernel
theorem dX2_wordOfBlock_41 : decode cX2_wordOfBlock 41 = .ok (.iload 5, 2) := by decide +kernel
theorem dX2_wordOfBlock_43 : decode cX2_wordOfBlock 43 = .ok (.iload 4, 2) := by decide +kernel
theorem dX2_wordOfBlock_45 : decode cX2_wordOfBlock 45 = .ok (.iload 5, 2) := by decide +kernel
theorem dX2_wordOfBlock_47 : decode cX2_wordOfBlock 47 = .ok (.iload_n 1, 1) := by decide +kernel
theorem dX2_wordOfBlock_48 : decode cX2_wordOfBlock 48 = .ok (.iload 4, 2) := by decide +kernel
theorem dX2_wordOfBlock_50 : decode cX2_wordOfBlock 50 = .ok (.iconst 1, 1) := by decide +kernel
theorem dX2_wordOfBlock_51 : decode cX2_wordOfBlock 51 = .ok (.isub, 1) := by decide +kernel
theorem dX2_wordOfBlock_52 : decode cX2_wordOfBlock 52 = .ok (.irem, 1) := by decide +kernel
theorem dX2_wordOfBlock_53 : decode cX2_wordOfBlock 53 = .ok (.invokestatic 220, 3) := by decide +kernel
theorem dX2_wordOfBlock_56 : decode cX2_wordOfBlock 56 = .ok (.iload_n 2, 1) := by decide +kernel
theorem dX2_wordOfBlock_57 : decode cX2_wordOfBlock 57 = .ok (.invokevirtual 224, 3) := by decide +kernel
theorem dX2_wordOfBlock_60 : decode cX2_wordOfBlock 60 = .ok (.ireturn, 1) := by decide +kernel
set_option maxRecDepth 20000 in
theorem ggX2_wordOfStash_X2_absentDisk : GoodIn wsX2_wordOfStash wsX2_absentDisk := goodIn_r _ [7, 8, 9, 16, 17, 18, 19, 20, 21, 22, 23, 24, 25] (by decide +kernel) (by decide +kernel)
set_option maxRecDepth 20000 in
theorem gX2_wordOfStash_X2_absentDisk : GoodIn wsX2_wordOfStash (wsV RX2 105 RX2 yX2_absentDisk wsX2_absentDisk) := goodIn_app (goodIn_of _ (by decide +kernel)) ggX2_wordOfStash_X2_absentDisk
set_option maxRecDepth 20000 in
theorem ggX2_wordOfStash_X0_word : GoodIn wsX2_wordOfStash wsX0_word := goodIn_r _ [14, 15, 31, 32, 33, 34, 35, 36, 37] (by decide +kernel) (by decide +kernel)
set_option maxRecDepth 20000 in
theorem gX2_wordOfStash_X0_word : GoodIn wsX2_wordOfStash (wsV RX2 188 RX0 yX0_word wsX0_word) := goodIn_app (goodIn_of _ (by decide +kernel)) ggX2_wordOfStash_X0_word
theorem dX2_wordOfStash_0 : decode cX2_wordOfStash 0 = .ok (.aload_n 0, 1) := by decide +kernel
theorem dX2_wordOfStash_1 : decode cX2_wordOfStash 1 = .ok (.invokevirtual 105, 3) := by decide +kernel
theorem dX2_wordOfStash_4 : decode cX2_wordOfStash 4 = .ok (.aload_n 0, 1) := by decide +kernel
theorem dX2_wordOfStash_5 : decode cX2_wordOfStash 5 = .ok (.getfield 18, 3) := by decide +kernel
theorem dX2_wordOfStash_8 : decode cX2_wordOfStash 8 = .ok (.getfield 58, 3) := by decide +kernel
theorem dX2_wordOfStash_11 : decode cX2_wordOfStash 11 = .ok (.if_icmp .ne 7, 3) := by decide +kernel
theorem dX2_wordOfStash_14 : decode cX2_wordOfStash 14 = .ok (.iconst 0, 1) := by decide +kernel
theorem dX2_wordOfStash_15 : decode cX2_wordOfStash 15 = .ok (.goto 10, 3) := by decide +kernel
theorem dX2_wordOfStash_18 : decode cX2_wordOfStash 18 = .ok (.aload_n 0, 1) := by decide +kernel
theorem dX2_wordOfStash_19 : decode cX2_wordOfStash 19 = .ok (.getfield 18, 3) := by decide +kernel
theorem dX2_wordOfStash_22 : decode cX2_wordOfStash 22 = .ok (.getfield 58, 3) := by decide +kernel
theorem dX2_wordOfStash_25 : decode cX2_wordOfStash 25 = .ok (.istore_n 3, 1) := by decide +kernel
theorem dX2_wordOfStash_26 : decode cX2_wordOfStash 26 = .ok (.aload_n 0, 1) := by decide +kernel
theorem dX2_wordOfStash_27 : decode cX2_wordOfStash 27 = .ok (.getfield 11, 3) := by decide +kernel
theorem dX2_wordOfStash_30 : decode cX2_wordOfStash 30 = .ok (.iload_n 3, 1) := by decide +kernel
theorem dX2_wordOfStash_31 : decode cX2_wordOfStash 31 = .ok (.aaload, 1) := by decide +kernel
theorem dX2_wordOfStash_32 : decode cX2_wordOfStash 32 = .ok (.bipush 32, 2) := by decide +kernel
theorem dX2_wordOfStash_34 : decode cX2_wordOfStash 34 = .ok (.iload_n 1, 1) := by decide +kernel
theorem dX2_wordOfStash_35 : decode cX2_wordOfStash 35 = .ok (.iadd, 1) := by decide +kernel
theorem dX2_wordOfStash_36 : decode cX2_wordOfStash 36 = .ok (.iload_n 2, 1) := by decide +kernel
theorem dX2_wordOfStash_37 : decode cX2_wordOfStash 37 = .ok (.invokevirtual 188, 3) := by decide +kernel
theorem dX2_wordOfStash_40 : decode cX2_wordOfStash 40 = .ok (.ireturn, 1) := by decide +kernel
set_option maxRecDepth 20000 in
theorem ggX2_wordTold_X2_absentDisk : GoodIn wsX2_wordTold wsX2_absentDisk := goodIn_r _ [6, 7, 8, 19, 20, 21, 22, 23, 24, 25, 26, 27, 28] (by decide +kernel) (by decide +kernel)
set_option maxRecDepth 20000 in
theorem gX2_wordTold_X2_absentDisk : GoodIn wsX2_wordTold (wsV RX2 105 RX2 yX2_absentDisk wsX2_absentDisk) := goodIn_app (goodIn_of _ (by decide +kernel)) ggX2_wordTold_X2_absentDisk
set_option maxRecDepth 20000 in
theorem ggX2_wordTold_X2_wordByTheRest : GoodIn wsX2_wordTold wsX2_wordByTheRest := goodIn_r _ [12, 1, 13, 14, 15, 16, 17, 18, 19, 20, 21, 22, 23, 24, 25, 26, 27, 28, 29, 30, 31, 32, 33, 34, 35] (by decide +kernel) (by decide +kernel)
set_option maxRecDepth 20000 in
theorem gX2_wordTold_X2_wordByTheRest : GoodIn wsX2_wordTold (wsV RX2 228 RX2 yX2_wordByTheRest wsX2_wordByTheRest) := goodIn_app (goodIn_of _ (by decide +kernel)) ggX2_wordTold_X2_wordByTheRest
set_option maxRecDepth 20000 in
theorem ggX2_wordTold_X0_word : GoodIn wsX2_wordTold wsX0_word := goodIn_r _ [17, 18, 29, 30, 31, 32, 33, 34, 35] (by decide +kernel) (by decide +kernel)
set_option maxRecDepth 20000 in
theorem gX2_wordTold_X0_word : GoodIn wsX2_wordTold (wsV RX2 188 RX0 yX0_word wsX0_word) := goodIn_app (goodIn_of _ (by decide +kernel)) ggX2_wordTold_X0_word
theorem dX2_wordTold_0 : decode cX2_wordTold 0 = .ok (.iload_n 3, 1) := by decide +kernel
theorem dX2_wordTold_1 : decode cX2_wordTold 1 = .ok (.aload_n 0, 1) := by decide +kernel
theorem dX2_wordTold_2 : decode cX2_wordTold 2 = .ok (.invokevirtual 105, 3) := by decide +kernel
theorem dX2_wordTold_5 : decode cX2_wordTold 5 = .ok (.if_icmp .ne 15, 3) := by decide +kernel
theorem dX2_wordTold_8 : decode cX2_wordTold 8 = .ok (.aload_n 0, 1) := by decide +kernel
theorem dX2_wordTold_9 : decode cX2_wordTold 9 = .ok (.iload_n 1, 1) := by decide +kernel
theorem dX2_wordTold_10 : decode cX2_wordTold 10 = .ok (.iload_n 2, 1) := by decide +kernel
theorem dX2_wordTold_11 : decode cX2_wordTold 11 = .ok (.iload_n 3, 1) := by decide +kernel
theorem dX2_wordTold_12 : decode cX2_wordTold 12 = .ok (.iload 4, 2) := by decide +kernel
theorem dX2_wordTold_14 : decode cX2_wordTold 14 = .ok (.invokevirtual 228, 3) := by decide +kernel
theorem dX2_wordTold_17 : decode cX2_wordTold 17 = .ok (.goto 15, 3) := by decide +kernel
theorem dX2_wordTold_20 : decode cX2_wordTold 20 = .ok (.aload_n 0, 1) := by decide +kernel
theorem dX2_wordTold_21 : decode cX2_wordTold 21 = .ok (.getfield 11, 3) := by decide +kernel
theorem dX2_wordTold_24 : decode cX2_wordTold 24 = .ok (.iload_n 3, 1) := by decide +kernel
theorem dX2_wordTold_25 : decode cX2_wordTold 25 = .ok (.aaload, 1) := by decide +kernel
theorem dX2_wordTold_26 : decode cX2_wordTold 26 = .ok (.iload_n 2, 1) := by decide +kernel
theorem dX2_wordTold_27 : decode cX2_wordTold 27 = .ok (.iload 4, 2) := by decide +kernel
theorem dX2_wordTold_29 : decode cX2_wordTold 29 = .ok (.invokevirtual 188, 3) := by decide +kernel
theorem dX2_wordTold_32 : decode cX2_wordTold 32 = .ok (.ireturn, 1) := by decide +kernel
set_option maxRecDepth 20000 in
theorem ggX2_wordByTheRest_X0_word : GoodIn wsX2_wordByTheRest wsX0_word := goodIn_r _ [6, 7, 18, 19, 20, 21, 22, 23, 24] (by decide +kernel) (by decide +kernel)
set_option maxRecDepth 20000 in
theorem gX2_wordByTheRest_X0_word : GoodIn wsX2_wordByTheRest (wsV RX2 188 RX0 yX0_word wsX0_word) := goodIn_app (goodIn_of _ (by decide +kernel)) ggX2_wordByTheRest_X0_word
theorem dX2_wordByTheRest_0 : decode cX2_wordByTheRest 0 = .ok (.iconst 0, 1) := by decide +kernel
theorem dX2_wordByTheRest_1 : decode cX2_wordByTheRest 1 = .ok (.istore 5, 2) := by decide +kernel
theorem dX2_wordByTheRest_3 : decode cX2_wordByTheRest 3 = .ok (.iconst 0, 1) := by decide +kernel
theorem dX2_wordByTheRest_4 : decode cX2_wordByTheRest 4 = .ok (.istore 6, 2) := by decide +kernel
theorem dX2_wordByTheRest_6 : decode cX2_wordByTheRest 6 = .ok (.iload 6, 2) := by decide +kernel
theorem dX2_wordByTheRest_8 : decode cX2_wordByTheRest 8 = .ok (.iload_n 1, 1) := by decide +kernel
theorem dX2_wordByTheRest_9 : decode cX2_wordByTheRest 9 = .ok (.if_icmp .ge 33, 3) := by decide +kernel
theorem dX2_wordByTheRest_12 : decode cX2_wordByTheRest 12 = .ok (.iload 6, 2) := by decide +kernel
theorem dX2_wordByTheRest_14 : decode cX2_wordByTheRest 14 = .ok (.iload_n 3, 1) := by decide +kernel
theorem dX2_wordByTheRest_15 : decode cX2_wordByTheRest 15 = .ok (.if_icmp .eq 21, 3) := by decide +kernel
theorem dX2_wordByTheRest_18 : decode cX2_wordByTheRest 18 = .ok (.iload 5, 2) := by decide +kernel
theorem dX2_wordByTheRest_20 : decode cX2_wordByTheRest 20 = .ok (.aload_n 0, 1) := by decide +kernel
theorem dX2_wordByTheRest_21 : decode cX2_wordByTheRest 21 = .ok (.getfield 11, 3) := by decide +kernel
theorem dX2_wordByTheRest_24 : decode cX2_wordByTheRest 24 = .ok (.iload 6, 2) := by decide +kernel
theorem dX2_wordByTheRest_26 : decode cX2_wordByTheRest 26 = .ok (.aaload, 1) := by decide +kernel
theorem dX2_wordByTheRest_27 : decode cX2_wordByTheRest 27 = .ok (.iload_n 2, 1) := by decide +kernel
theorem dX2_wordByTheRest_28 : decode cX2_wordByTheRest 28 = .ok (.iload 4, 2) := by decide +kernel
theorem dX2_wordByTheRest_30 : decode cX2_wordByTheRest 30 = .ok (.invokevirtual 188, 3) := by decide +kernel
theorem dX2_wordByTheRest_33 : decode cX2_wordByTheRest 33 = .ok (.ixor, 1) := by decide +kernel
theorem dX2_wordByTheRest_34 : decode cX2_wordByTheRest 34 = .ok (.istore 5, 2) := by decide +kernel
theorem dX2_wordByTheRest_36 : decode cX2_wordByTheRest 36 = .ok (.iinc 6 1, 3) := by decide +kernel
theorem dX2_wordByTheRest_39 : decode cX2_wordByTheRest 39 = .ok (.goto (-33), 3) := by decide +kernel
theorem dX2_wordByTheRest_42 : decode cX2_wordByTheRest 42 = .ok (.iload 5, 2) := by decide +kernel
theorem dX2_wordByTheRest_44 : decode cX2_wordByTheRest 44 = .ok (.ireturn, 1) := by decide +kernel
set_option maxRecDepth 20000 in
theorem ggX2_isParityRight_X2_widthOfRow : GoodIn wsX2_isParityRight wsX2_widthOfRow := goodIn_r _ [6, 7, 21, 22, 23, 24, 25, 26, 27, 28, 29, 30, 31, 32, 33, 34, 35] (by decide +kernel) (by decide +kernel)
set_option maxRecDepth 20000 in
theorem gX2_isParityRight_X2_widthOfRow : GoodIn wsX2_isParityRight (wsV RX2 231 RX2 yX2_widthOfRow wsX2_widthOfRow) := goodIn_app (goodIn_of _ (by decide +kernel)) ggX2_isParityRight_X2_widthOfRow
set_option maxRecDepth 20000 in
theorem ggX2_isParityRight_X2_parityDisk : GoodIn wsX2_isParityRight wsX2_parityDisk := goodIn_r _ [10] (by decide +kernel) (by decide +kernel)
set_option maxRecDepth 20000 in
theorem gX2_isParityRight_X2_parityDisk : GoodIn wsX2_isParityRight (va_wsS RX2 214 yX2_parityDisk wsX2_parityDisk) := goodIn_app (goodIn_of _ (by decide +kernel)) ggX2_isParityRight_X2_parityDisk
set_option maxRecDepth 20000 in
theorem ggX2_isParityRight_X0_word : GoodIn wsX2_isParityRight wsX0_word := goodIn_r _ [15, 16, 36, 37, 38, 39, 40, 41, 42] (by decide +kernel) (by decide +kernel)
set_option maxRecDepth 20000 in
theorem gX2_isParityRight_X0_word : GoodIn wsX2_isParityRight (wsV RX2 188 RX0 yX0_word wsX0_word) := goodIn_app (goodIn_of _ (by decide +kernel)) ggX2_isParityRight_X0_word
set_option maxRecDepth 20000 in
theorem ggX2_isParityRight_X2_wordByTheRest : GoodIn wsX2_isParityRight wsX2_wordByTheRest := goodIn_r _ [20, 1, 11, 12, 13, 14, 15, 16, 21, 22, 23, 24, 25, 26, 27, 28, 29, 30, 36, 37, 38, 39, 40, 41, 42] (by decide +kernel) (by decide +kernel)
set_option maxRecDepth 20000 in
theorem gX2_isParityRight_X2_wordByTheRest : GoodIn wsX2_isParityRight (wsV RX2 228 RX2 yX2_wordByTheRest wsX2_wordByTheRest) := goodIn_app (goodIn_of _ (by decide +kernel)) ggX2_isParityRight_X2_wordByTheRest
theorem dX2_isParityRight_0 : decode cX2_isParityRight 0 = .ok (.aload_n 0, 1) := by decide +kernel
theorem dX2_isParityRight_1 : decode cX2_isParityRight 1 = .ok (.iload_n 1, 1) := by decide +kernel
theorem dX2_isParityRight_2 : decode cX2_isParityRight 2 = .ok (.invokevirtual 231, 3) := by decide +kernel
theorem dX2_isParityRight_5 : decode cX2_isParityRight 5 = .ok (.istore_n 2, 1) := by decide +kernel
theorem dX2_isParityRight_6 : decode cX2_isParityRight 6 = .ok (.iload_n 2, 1) := by decide +kernel
theorem dX2_isParityRight_7 : decode cX2_isParityRight 7 = .ok (.iload_n 1, 1) := by decide +kernel
theorem dX2_isParityRight_8 : decode cX2_isParityRight 8 = .ok (.invokestatic 214, 3) := by decide +kernel
theorem dX2_isParityRight_11 : decode cX2_isParityRight 11 = .ok (.istore_n 3, 1) := by decide +kernel
theorem dX2_isParityRight_12 : decode cX2_isParityRight 12 = .ok (.iconst 0, 1) := by decide +kernel
theorem dX2_isParityRight_13 : decode cX2_isParityRight 13 = .ok (.istore 4, 2) := by decide +kernel
theorem dX2_isParityRight_15 : decode cX2_isParityRight 15 = .ok (.iload 4, 2) := by decide +kernel
theorem dX2_isParityRight_17 : decode cX2_isParityRight 17 = .ok (.iconst 4, 1) := by decide +kernel
theorem dX2_isParityRight_18 : decode cX2_isParityRight 18 = .ok (.if_icmp .ge 35, 3) := by decide +kernel
theorem dX2_isParityRight_21 : decode cX2_isParityRight 21 = .ok (.aload_n 0, 1) := by decide +kernel
theorem dX2_isParityRight_22 : decode cX2_isParityRight 22 = .ok (.getfield 11, 3) := by decide +kernel
theorem dX2_isParityRight_25 : decode cX2_isParityRight 25 = .ok (.iload_n 3, 1) := by decide +kernel
theorem dX2_isParityRight_26 : decode cX2_isParityRight 26 = .ok (.aaload, 1) := by decide +kernel
theorem dX2_isParityRight_27 : decode cX2_isParityRight 27 = .ok (.iload_n 1, 1) := by decide +kernel
theorem dX2_isParityRight_28 : decode cX2_isParityRight 28 = .ok (.iload 4, 2) := by decide +kernel
theorem dX2_isParityRight_30 : decode cX2_isParityRight 30 = .ok (.invokevirtual 188, 3) := by decide +kernel
theorem dX2_isParityRight_33 : decode cX2_isParityRight 33 = .ok (.aload_n 0, 1) := by decide +kernel
theorem dX2_isParityRight_34 : decode cX2_isParityRight 34 = .ok (.iload_n 2, 1) := by decide +kernel
theorem dX2_isParityRight_35 : decode cX2_isParityRight 35 = .ok (.iload_n 1, 1) := by decide +kernel
theorem dX2_isParityRight_36 : decode cX2_isParityRight 36 = .ok (.iload_n 3, 1) := by decide +kernel
theorem dX2_isParityRight_37 : decode cX2_isParityRight 37 = .ok (.iload 4, 2) := by decide +kernel
theorem dX2_isParityRight_39 : decode cX2_isParityRight 39 = .ok (.invokevirtual 228, 3) := by decide +kernel
theorem dX2_isParityRight_42 : decode cX2_isParityRight 42 = .ok (.if_icmp .eq 5, 3) := by decide +kernel
theorem dX2_isParityRight_45 : decode cX2_isParityRight 45 = .ok (.iconst 0, 1) := by decide +kernel
theorem dX2_isParityRight_46 : decode cX2_isParityRight 46 = .ok (.ireturn, 1) := by decide +kernel
theorem dX2_isParityRight_47 : decode cX2_isParityRight 47 = .ok (.iinc 4 1, 3) := by decide +kernel
theorem dX2_isParityRight_50 : decode cX2_isParityRight 50 = .ok (.goto (-35), 3) := by decide +kernel
theorem dX2_isParityRight_53 : decode cX2_isParityRight 53 = .ok (.iconst 1, 1) := by decide +kernel
theorem dX2_isParityRight_54 : decode cX2_isParityRight 54 = .ok (.ireturn, 1) := by decide +kernel
theorem dX2_beginWrites_0 : decode cX2_beginWrites 0 = .ok (.aload_n 0, 1) := by decide +kernel
theorem dX2_beginWrites_1 : decode cX2_beginWrites 1 = .ok (.aload_n 0, 1) := by decide +kernel
theorem dX2_beginWrites_2 : decode cX2_beginWrites 2 = .ok (.getfield 54, 3) := by decide +kernel
theorem dX2_beginWrites_5 : decode cX2_beginWrites 5 = .ok (.iload_n 1, 1) := by decide +kernel
theorem dX2_beginWrites_6 : decode cX2_beginWrites 6 = .ok (.invokestatic 234, 3) := by decide +kernel
theorem dX2_beginWrites_9 : decode cX2_beginWrites 9 = .ok (.putfield 54, 3) := by decide +kernel
theorem dX2_beginWrites_12 : decode cX2_beginWrites 12 = .ok (.return_, 1) := by decide +kernel
set_option maxRecDepth 20000 in
theorem ggX2_awaitWrites_X2_writesDone : GoodIn wsX2_awaitWrites wsX2_writesDone := goodIn_r _ [8, 2, 9, 10, 11, 12, 7, 13, 14, 15, 50, 51, 52, 53, 54, 55, 56, 57, 58, 59, 60, 61, 62, 63, 64, 65, 66] (by decide +kernel) (by decide +kernel)
set_option maxRecDepth 20000 in
theorem gX2_awaitWrites_X2_writesDone : GoodIn wsX2_awaitWrites (wsV RX2 239 RX2 yX2_writesDone wsX2_writesDone) := goodIn_app (goodIn_of _ (by decide +kernel)) ggX2_awaitWrites_X2_writesDone
set_option maxRecDepth 20000 in
theorem ggX2_awaitWrites_X0_doFirst : GoodIn wsX2_awaitWrites wsX0_doFirst := goodIn_r _ [20, 21, 22, 23, 24, 25, 26, 27, 28, 29, 30, 31, 32, 19, 33, 34, 35, 36, 37, 38, 39, 40, 41, 42, 43, 44, 45, 46, 47, 48, 49, 60, 61, 62, 63, 64, 65, 66, 67, 68, 69, 70, 71] (by decide +kernel) (by decide +kernel)
set_option maxRecDepth 20000 in
theorem gX2_awaitWrites_X0_doFirst : GoodIn wsX2_awaitWrites (wsV RX2 243 RX0 yX0_doFirst wsX0_doFirst) := goodIn_app (goodIn_of _ (by decide +kernel)) ggX2_awaitWrites_X0_doFirst
theorem dX2_awaitWrites_0 : decode cX2_awaitWrites 0 = .ok (.aload_n 0, 1) := by decide +kernel
theorem dX2_awaitWrites_1 : decode cX2_awaitWrites 1 = .ok (.getfield 54, 3) := by decide +kernel
theorem dX2_awaitWrites_4 : decode cX2_awaitWrites 4 = .ok (.iconst 1, 1) := by decide +kernel
theorem dX2_awaitWrites_5 : decode cX2_awaitWrites 5 = .ok (.if_icmp .ne 7, 3) := by decide +kernel
theorem dX2_awaitWrites_8 : decode cX2_awaitWrites 8 = .ok (.iconst 1, 1) := by decide +kernel
theorem dX2_awaitWrites_9 : decode cX2_awaitWrites 9 = .ok (.goto 4, 3) := by decide +kernel
theorem dX2_awaitWrites_12 : decode cX2_awaitWrites 12 = .ok (.iconst 0, 1) := by decide +kernel
theorem dX2_awaitWrites_13 : decode cX2_awaitWrites 13 = .ok (.istore_n 1, 1) := by decide +kernel
theorem dX2_awaitWrites_14 : decode cX2_awaitWrites 14 = .ok (.iconst 0, 1) := by decide +kernel
theorem dX2_awaitWrites_15 : decode cX2_awaitWrites 15 = .ok (.istore_n 2, 1) := by decide +kernel
theorem dX2_awaitWrites_16 : decode cX2_awaitWrites 16 = .ok (.iload_n 2, 1) := by decide +kernel
theorem dX2_awaitWrites_17 : decode cX2_awaitWrites 17 = .ok (.bipush 6, 2) := by decide +kernel
theorem dX2_awaitWrites_19 : decode cX2_awaitWrites 19 = .ok (.if_icmp .ge 24, 3) := by decide +kernel
theorem dX2_awaitWrites_22 : decode cX2_awaitWrites 22 = .ok (.aload_n 0, 1) := by decide +kernel
theorem dX2_awaitWrites_23 : decode cX2_awaitWrites 23 = .ok (.getfield 11, 3) := by decide +kernel
theorem dX2_awaitWrites_26 : decode cX2_awaitWrites 26 = .ok (.iload_n 2, 1) := by decide +kernel
theorem dX2_awaitWrites_27 : decode cX2_awaitWrites 27 = .ok (.aaload, 1) := by decide +kernel
theorem dX2_awaitWrites_28 : decode cX2_awaitWrites 28 = .ok (.aload_n 0, 1) := by decide +kernel
theorem dX2_awaitWrites_29 : decode cX2_awaitWrites 29 = .ok (.iload_n 2, 1) := by decide +kernel
theorem dX2_awaitWrites_30 : decode cX2_awaitWrites 30 = .ok (.iload_n 1, 1) := by decide +kernel
theorem dX2_awaitWrites_31 : decode cX2_awaitWrites 31 = .ok (.invokevirtual 239, 3) := by decide +kernel
theorem dX2_awaitWrites_34 : decode cX2_awaitWrites 34 = .ok (.invokevirtual 243, 3) := by decide +kernel
theorem dX2_awaitWrites_37 : decode cX2_awaitWrites 37 = .ok (.iinc 2 1, 3) := by decide +kernel
theorem dX2_awaitWrites_40 : decode cX2_awaitWrites 40 = .ok (.goto (-24), 3) := by decide +kernel
theorem dX2_awaitWrites_43 : decode cX2_awaitWrites 43 = .ok (.aload_n 0, 1) := by decide +kernel
theorem dX2_awaitWrites_44 : decode cX2_awaitWrites 44 = .ok (.getfield 54, 3) := by decide +kernel
theorem dX2_awaitWrites_47 : decode cX2_awaitWrites 47 = .ok (.ifCond .le 13, 3) := by decide +kernel
theorem dX2_awaitWrites_50 : decode cX2_awaitWrites 50 = .ok (.aload_n 0, 1) := by decide +kernel
theorem dX2_awaitWrites_51 : decode cX2_awaitWrites 51 = .ok (.dup, 1) := by decide +kernel
theorem dX2_awaitWrites_52 : decode cX2_awaitWrites 52 = .ok (.getfield 54, 3) := by decide +kernel
theorem dX2_awaitWrites_55 : decode cX2_awaitWrites 55 = .ok (.iconst 1, 1) := by decide +kernel
theorem dX2_awaitWrites_56 : decode cX2_awaitWrites 56 = .ok (.isub, 1) := by decide +kernel
theorem dX2_awaitWrites_57 : decode cX2_awaitWrites 57 = .ok (.putfield 54, 3) := by decide +kernel
theorem dX2_awaitWrites_60 : decode cX2_awaitWrites 60 = .ok (.aload_n 0, 1) := by decide +kernel
theorem dX2_awaitWrites_61 : decode cX2_awaitWrites 61 = .ok (.aload_n 0, 1) := by decide +kernel
theorem dX2_awaitWrites_62 : decode cX2_awaitWrites 62 = .ok (.getfield 51, 3) := by decide +kernel
theorem dX2_awaitWrites_65 : decode cX2_awaitWrites 65 = .ok (.ifCond .ne 7, 3) := by decide +kernel
theorem dX2_awaitWrites_68 : decode cX2_awaitWrites 68 = .ok (.iload_n 1, 1) := by decide +kernel
theorem dX2_awaitWrites_69 : decode cX2_awaitWrites 69 = .ok (.ifCond .eq 7, 3) := by decide +kernel
theorem dX2_awaitWrites_72 : decode cX2_awaitWrites 72 = .ok (.iconst 1, 1) := by decide +kernel
theorem dX2_awaitWrites_73 : decode cX2_awaitWrites 73 = .ok (.goto 4, 3) := by decide +kernel
theorem dX2_awaitWrites_76 : decode cX2_awaitWrites 76 = .ok (.iconst 0, 1) := by decide +kernel
theorem dX2_awaitWrites_77 : decode cX2_awaitWrites 77 = .ok (.putfield 51, 3) := by decide +kernel
theorem dX2_awaitWrites_80 : decode cX2_awaitWrites 80 = .ok (.iload_n 1, 1) := by decide +kernel
theorem dX2_awaitWrites_81 : decode cX2_awaitWrites 81 = .ok (.ifCond .ne 7, 3) := by decide +kernel
theorem dX2_awaitWrites_84 : decode cX2_awaitWrites 84 = .ok (.iconst 1, 1) := by decide +kernel
theorem dX2_awaitWrites_85 : decode cX2_awaitWrites 85 = .ok (.goto 4, 3) := by decide +kernel
theorem dX2_awaitWrites_88 : decode cX2_awaitWrites 88 = .ok (.iconst 0, 1) := by decide +kernel
theorem dX2_awaitWrites_89 : decode cX2_awaitWrites 89 = .ok (.ireturn, 1) := by decide +kernel
set_option maxRecDepth 20000 in
theorem ggX2_writesDone_X2_absentDisk : GoodIn wsX2_writesDone wsX2_absentDisk := goodIn_r _ [7, 8, 9, 10, 11, 12, 13, 14, 15, 16, 17, 18, 19] (by decide +kernel) (by decide +kernel)
set_option maxRecDepth 20000 in
theorem gX2_writesDone_X2_absentDisk : GoodIn wsX2_writesDone (wsV RX2 105 RX2 yX2_absentDisk wsX2_absentDisk) := goodIn_app (goodIn_of _ (by decide +kernel)) ggX2_writesDone_X2_absentDisk
theorem dX2_writesDone_0 : decode cX2_writesDone 0 = .ok (.iload_n 1, 1) := by decide +kernel
theorem dX2_writesDone_1 : decode cX2_writesDone 1 = .ok (.aload_n 0, 1) := by decide +kernel
theorem dX2_writesDone_2 : decode cX2_writesDone 2 = .ok (.invokevirtual 105, 3) := by decide +kernel
theorem dX2_writesDone_5 : decode cX2_writesDone 5 = .ok (.if_icmp .ne 5, 3) := by decide +kernel
theorem dX2_writesDone_8 : decode cX2_writesDone 8 = .ok (.iconst 0, 1) := by decide +kernel
theorem dX2_writesDone_9 : decode cX2_writesDone 9 = .ok (.ireturn, 1) := by decide +kernel
theorem dX2_writesDone_10 : decode cX2_writesDone 10 = .ok (.aload_n 0, 1) := by decide +kernel
theorem dX2_writesDone_11 : decode cX2_writesDone 11 = .ok (.getfield 11, 3) := by decide +kernel
theorem dX2_writesDone_14 : decode cX2_writesDone 14 = .ok (.iload_n 1, 1) := by decide +kernel
theorem dX2_writesDone_15 : decode cX2_writesDone 15 = .ok (.aaload, 1) := by decide +kernel
theorem dX2_writesDone_16 : decode cX2_writesDone 16 = .ok (.getfield 246, 3) := by decide +kernel
theorem dX2_writesDone_19 : decode cX2_writesDone 19 = .ok (.istore_n 3, 1) := by decide +kernel
theorem dX2_writesDone_20 : decode cX2_writesDone 20 = .ok (.iload_n 2, 1) := by decide +kernel
theorem dX2_writesDone_21 : decode cX2_writesDone 21 = .ok (.ifCond .eq 21, 3) := by decide +kernel
theorem dX2_writesDone_24 : decode cX2_writesDone 24 = .ok (.aload_n 0, 1) := by decide +kernel
theorem dX2_writesDone_25 : decode cX2_writesDone 25 = .ok (.getfield 154, 3) := by decide +kernel
theorem dX2_writesDone_28 : decode cX2_writesDone 28 = .ok (.iconst 4, 1) := by decide +kernel
theorem dX2_writesDone_29 : decode cX2_writesDone 29 = .ok (.iload_n 1, 1) := by decide +kernel
theorem dX2_writesDone_30 : decode cX2_writesDone 30 = .ok (.imul, 1) := by decide +kernel
theorem dX2_writesDone_31 : decode cX2_writesDone 31 = .ok (.ishr, 1) := by decide +kernel
theorem dX2_writesDone_32 : decode cX2_writesDone 32 = .ok (.bipush 15, 2) := by decide +kernel
theorem dX2_writesDone_34 : decode cX2_writesDone 34 = .ok (.iand, 1) := by decide +kernel
theorem dX2_writesDone_35 : decode cX2_writesDone 35 = .ok (.iload_n 3, 1) := by decide +kernel
theorem dX2_writesDone_36 : decode cX2_writesDone 36 = .ok (.iconst 1, 1) := by decide +kernel
theorem dX2_writesDone_37 : decode cX2_writesDone 37 = .ok (.iadd, 1) := by decide +kernel
theorem dX2_writesDone_38 : decode cX2_writesDone 38 = .ok (.irem, 1) := by decide +kernel
theorem dX2_writesDone_39 : decode cX2_writesDone 39 = .ok (.goto 4, 3) := by decide +kernel
theorem dX2_writesDone_42 : decode cX2_writesDone 42 = .ok (.iload_n 3, 1) := by decide +kernel
theorem dX2_writesDone_43 : decode cX2_writesDone 43 = .ok (.ireturn, 1) := by decide +kernel
set_option maxRecDepth 20000 in
theorem ggX2_issueNewMarks_X2_diskCount : GoodIn wsX2_issueNewMarks wsX2_diskCount := goodIn_r _ [7, 1, 26, 27, 28, 29, 30, 31, 32, 33, 34, 35, 36, 37, 38, 39, 40] (by decide +kernel) (by decide +kernel)
set_option maxRecDepth 20000 in
theorem gX2_issueNewMarks_X2_diskCount : GoodIn wsX2_issueNewMarks (wsV RX2 116 RX2 yX2_diskCount wsX2_diskCount) := goodIn_app (goodIn_of _ (by decide +kernel)) ggX2_issueNewMarks_X2_diskCount
set_option maxRecDepth 20000 in
theorem ggX2_issueNewMarks_X0_issueMarks : GoodIn wsX2_issueNewMarks wsX0_issueMarks := goodIn_r _ [12, 13, 14, 15, 16, 17, 18, 19, 20, 21, 22, 23, 24, 25, 41, 42, 43, 44, 45, 46, 47, 36, 37, 38, 39, 40] (by decide +kernel) (by decide +kernel)
set_option maxRecDepth 20000 in
theorem gX2_issueNewMarks_X0_issueMarks : GoodIn wsX2_issueNewMarks (wsV RX2 249 RX0 yX0_issueMarks wsX0_issueMarks) := goodIn_app (goodIn_of _ (by decide +kernel)) ggX2_issueNewMarks_X0_issueMarks
theorem dX2_issueNewMarks_0 : decode cX2_issueNewMarks 0 = .ok (.aload_n 0, 1) := by decide +kernel
theorem dX2_issueNewMarks_1 : decode cX2_issueNewMarks 1 = .ok (.getfield 18, 3) := by decide +kernel
theorem dX2_issueNewMarks_4 : decode cX2_issueNewMarks 4 = .ok (.dup, 1) := by decide +kernel
theorem dX2_issueNewMarks_5 : decode cX2_issueNewMarks 5 = .ok (.getfield 197, 3) := by decide +kernel
theorem dX2_issueNewMarks_8 : decode cX2_issueNewMarks 8 = .ok (.iconst 1, 1) := by decide +kernel
theorem dX2_issueNewMarks_9 : decode cX2_issueNewMarks 9 = .ok (.iadd, 1) := by decide +kernel
theorem dX2_issueNewMarks_10 : decode cX2_issueNewMarks 10 = .ok (.putfield 197, 3) := by decide +kernel
theorem dX2_issueNewMarks_13 : decode cX2_issueNewMarks 13 = .ok (.iconst 0, 1) := by decide +kernel
theorem dX2_issueNewMarks_14 : decode cX2_issueNewMarks 14 = .ok (.istore_n 1, 1) := by decide +kernel
theorem dX2_issueNewMarks_15 : decode cX2_issueNewMarks 15 = .ok (.iload_n 1, 1) := by decide +kernel
theorem dX2_issueNewMarks_16 : decode cX2_issueNewMarks 16 = .ok (.aload_n 0, 1) := by decide +kernel
theorem dX2_issueNewMarks_17 : decode cX2_issueNewMarks 17 = .ok (.invokevirtual 116, 3) := by decide +kernel
theorem dX2_issueNewMarks_20 : decode cX2_issueNewMarks 20 = .ok (.if_icmp .ge 22, 3) := by decide +kernel
theorem dX2_issueNewMarks_23 : decode cX2_issueNewMarks 23 = .ok (.aload_n 0, 1) := by decide +kernel
theorem dX2_issueNewMarks_24 : decode cX2_issueNewMarks 24 = .ok (.getfield 11, 3) := by decide +kernel
theorem dX2_issueNewMarks_27 : decode cX2_issueNewMarks 27 = .ok (.iload_n 1, 1) := by decide +kernel
theorem dX2_issueNewMarks_28 : decode cX2_issueNewMarks 28 = .ok (.aaload, 1) := by decide +kernel
theorem dX2_issueNewMarks_29 : decode cX2_issueNewMarks 29 = .ok (.aload_n 0, 1) := by decide +kernel
theorem dX2_issueNewMarks_30 : decode cX2_issueNewMarks 30 = .ok (.getfield 18, 3) := by decide +kernel
theorem dX2_issueNewMarks_33 : decode cX2_issueNewMarks 33 = .ok (.invokevirtual 249, 3) := by decide +kernel
theorem dX2_issueNewMarks_36 : decode cX2_issueNewMarks 36 = .ok (.iinc 1 1, 3) := by decide +kernel
theorem dX2_issueNewMarks_39 : decode cX2_issueNewMarks 39 = .ok (.goto (-24), 3) := by decide +kernel
theorem dX2_issueNewMarks_42 : decode cX2_issueNewMarks 42 = .ok (.return_, 1) := by decide +kernel
set_option maxRecDepth 20000 in
theorem ggX2_issueChange_X2_fetchRow : GoodIn wsX2_issueChange wsX2_fetchRow := goodIn_r _ [7, 1, 8, 9, 6, 10, 11, 12, 13, 14, 15, 16, 17, 2, 18, 19, 20, 21, 22, 23, 24, 25, 26, 27, 28, 29, 30, 31, 32, 33, 50, 51, 52, 53, 54, 55, 56, 57, 58, 59, 60, 61, 62, 63, 64, 65, 66] (by decide +kernel) (by decide +kernel)
set_option maxRecDepth 20000 in
theorem gX2_issueChange_X2_fetchRow : GoodIn wsX2_issueChange (wsV RX2 252 RX2 yX2_fetchRow wsX2_fetchRow) := goodIn_app (goodIn_of _ (by decide +kernel)) ggX2_issueChange_X2_fetchRow
set_option maxRecDepth 20000 in
theorem ggX2_issueChange_X2_dataDisk : GoodIn wsX2_issueChange wsX2_dataDisk := goodIn_r _ [10, 11, 12, 6, 13] (by decide +kernel) (by decide +kernel)
set_option maxRecDepth 20000 in
theorem gX2_issueChange_X2_dataDisk : GoodIn wsX2_issueChange (va_wsS RX2 220 yX2_dataDisk wsX2_dataDisk) := goodIn_app (goodIn_of _ (by decide +kernel)) ggX2_issueChange_X2_dataDisk
set_option maxRecDepth 20000 in
theorem ggX2_issueChange_X0_issueBlock : GoodIn wsX2_issueChange wsX0_issueBlock := goodIn_r _ [37, 38, 39, 40, 41, 42, 43, 44, 60, 61, 62, 63, 64, 65, 66] (by decide +kernel) (by decide +kernel)
set_option maxRecDepth 20000 in
theorem gX2_issueChange_X0_issueBlock : GoodIn wsX2_issueChange (wsV RX2 255 RX0 yX0_issueBlock wsX0_issueBlock) := goodIn_app (goodIn_of _ (by decide +kernel)) ggX2_issueChange_X0_issueBlock
set_option maxRecDepth 20000 in
theorem ggX2_issueChange_X2_issueParity : GoodIn wsX2_issueChange wsX2_issueParity := goodIn_r _ [48, 49, 1, 2, 11, 12, 6, 13, 34, 35, 36, 31, 37, 38, 39, 40, 41, 42, 43, 44, 50, 51, 52, 53, 54, 55, 56, 57, 58, 59, 60, 61, 62, 63, 64, 65, 66] (by decide +kernel) (by decide +kernel)
set_option maxRecDepth 20000 in
theorem gX2_issueChange_X2_issueParity : GoodIn wsX2_issueChange (wsV RX2 259 RX2 yX2_issueParity wsX2_issueParity) := goodIn_app (goodIn_of _ (by decide +kernel)) ggX2_issueChange_X2_issueParity
theorem dX2_issueChange_0 : decode cX2_issueChange 0 = .ok (.iload_n 1, 1) := by decide +kernel
theorem dX2_issueChange_1 : decode cX2_issueChange 1 = .ok (.iload_n 2, 1) := by decide +kernel
theorem dX2_issueChange_2 : decode cX2_issueChange 2 = .ok (.iconst 1, 1) := by decide +kernel
theorem dX2_issueChange_3 : decode cX2_issueChange 3 = .ok (.isub, 1) := by decide +kernel
theorem dX2_issueChange_4 : decode cX2_issueChange 4 = .ok (.idiv, 1) := by decide +kernel
theorem dX2_issueChange_5 : decode cX2_issueChange 5 = .ok (.istore 5, 2) := by decide +kernel
theorem dX2_issueChange_7 : decode cX2_issueChange 7 = .ok (.iload_n 1, 1) := by decide +kernel
theorem dX2_issueChange_8 : decode cX2_issueChange 8 = .ok (.iload_n 2, 1) := by decide +kernel
theorem dX2_issueChange_9 : decode cX2_issueChange 9 = .ok (.iconst 1, 1) := by decide +kernel
theorem dX2_issueChange_10 : decode cX2_issueChange 10 = .ok (.isub, 1) := by decide +kernel
theorem dX2_issueChange_11 : decode cX2_issueChange 11 = .ok (.irem, 1) := by decide +kernel
theorem dX2_issueChange_12 : decode cX2_issueChange 12 = .ok (.istore 6, 2) := by decide +kernel
theorem dX2_issueChange_14 : decode cX2_issueChange 14 = .ok (.aload_n 0, 1) := by decide +kernel
theorem dX2_issueChange_15 : decode cX2_issueChange 15 = .ok (.iload_n 2, 1) := by decide +kernel
theorem dX2_issueChange_16 : decode cX2_issueChange 16 = .ok (.iload 5, 2) := by decide +kernel
theorem dX2_issueChange_18 : decode cX2_issueChange 18 = .ok (.invokevirtual 252, 3) := by decide +kernel
theorem dX2_issueChange_21 : decode cX2_issueChange 21 = .ok (.aload_n 0, 1) := by decide +kernel
theorem dX2_issueChange_22 : decode cX2_issueChange 22 = .ok (.getfield 22, 3) := by decide +kernel
theorem dX2_issueChange_25 : decode cX2_issueChange 25 = .ok (.iload 6, 2) := by decide +kernel
theorem dX2_issueChange_27 : decode cX2_issueChange 27 = .ok (.iconst 4, 1) := by decide +kernel
theorem dX2_issueChange_28 : decode cX2_issueChange 28 = .ok (.imul, 1) := by decide +kernel
theorem dX2_issueChange_29 : decode cX2_issueChange 29 = .ok (.iload_n 3, 1) := by decide +kernel
theorem dX2_issueChange_30 : decode cX2_issueChange 30 = .ok (.iadd, 1) := by decide +kernel
theorem dX2_issueChange_31 : decode cX2_issueChange 31 = .ok (.iload 4, 2) := by decide +kernel
theorem dX2_issueChange_33 : decode cX2_issueChange 33 = .ok (.iastore, 1) := by decide +kernel
theorem dX2_issueChange_34 : decode cX2_issueChange 34 = .ok (.aload_n 0, 1) := by decide +kernel
theorem dX2_issueChange_35 : decode cX2_issueChange 35 = .ok (.getfield 11, 3) := by decide +kernel
theorem dX2_issueChange_38 : decode cX2_issueChange 38 = .ok (.iload_n 2, 1) := by decide +kernel
theorem dX2_issueChange_39 : decode cX2_issueChange 39 = .ok (.iload 5, 2) := by decide +kernel
theorem dX2_issueChange_41 : decode cX2_issueChange 41 = .ok (.iload 6, 2) := by decide +kernel
theorem dX2_issueChange_43 : decode cX2_issueChange 43 = .ok (.invokestatic 220, 3) := by decide +kernel
theorem dX2_issueChange_46 : decode cX2_issueChange 46 = .ok (.aaload, 1) := by decide +kernel
theorem dX2_issueChange_47 : decode cX2_issueChange 47 = .ok (.iload 5, 2) := by decide +kernel
theorem dX2_issueChange_49 : decode cX2_issueChange 49 = .ok (.aload_n 0, 1) := by decide +kernel
theorem dX2_issueChange_50 : decode cX2_issueChange 50 = .ok (.getfield 22, 3) := by decide +kernel
theorem dX2_issueChange_53 : decode cX2_issueChange 53 = .ok (.iload 6, 2) := by decide +kernel
theorem dX2_issueChange_55 : decode cX2_issueChange 55 = .ok (.iconst 4, 1) := by decide +kernel
theorem dX2_issueChange_56 : decode cX2_issueChange 56 = .ok (.imul, 1) := by decide +kernel
theorem dX2_issueChange_57 : decode cX2_issueChange 57 = .ok (.invokevirtual 255, 3) := by decide +kernel
theorem dX2_issueChange_60 : decode cX2_issueChange 60 = .ok (.aload_n 0, 1) := by decide +kernel
theorem dX2_issueChange_61 : decode cX2_issueChange 61 = .ok (.iload_n 2, 1) := by decide +kernel
theorem dX2_issueChange_62 : decode cX2_issueChange 62 = .ok (.iload 5, 2) := by decide +kernel
theorem dX2_issueChange_64 : decode cX2_issueChange 64 = .ok (.invokevirtual 259, 3) := by decide +kernel
theorem dX2_issueChange_67 : decode cX2_issueChange 67 = .ok (.return_, 1) := by decide +kernel
set_option maxRecDepth 20000 in
theorem ggX2_fetchRow_X2_dataDisk : GoodIn wsX2_fetchRow wsX2_dataDisk := goodIn_r _ [5, 6, 7, 4, 8] (by decide +kernel) (by decide +kernel)
set_option maxRecDepth 20000 in
theorem gX2_fetchRow_X2_dataDisk : GoodIn wsX2_fetchRow (va_wsS RX2 220 yX2_dataDisk wsX2_dataDisk) := goodIn_app (goodIn_of _ (by decide +kernel)) ggX2_fetchRow_X2_dataDisk
set_option maxRecDepth 20000 in
theorem ggX2_fetchRow_X2_wordTold : GoodIn wsX2_fetchRow wsX2_wordTold := goodIn_r _ [12, 13, 14, 15, 16, 4, 17, 18, 19, 20, 21, 22, 23, 24, 25, 26, 27, 28, 29, 30, 31, 32, 33, 34, 35, 36, 37, 38, 39, 40, 41, 42, 43, 44, 45, 46] (by decide +kernel) (by decide +kernel)
set_option maxRecDepth 20000 in
theorem gX2_fetchRow_X2_wordTold : GoodIn wsX2_fetchRow (wsV RX2 224 RX2 yX2_wordTold wsX2_wordTold) := goodIn_app (goodIn_of _ (by decide +kernel)) ggX2_fetchRow_X2_wordTold
theorem dX2_fetchRow_0 : decode cX2_fetchRow 0 = .ok (.iconst 0, 1) := by decide +kernel
theorem dX2_fetchRow_1 : decode cX2_fetchRow 1 = .ok (.istore_n 3, 1) := by decide +kernel
theorem dX2_fetchRow_2 : decode cX2_fetchRow 2 = .ok (.iload_n 3, 1) := by decide +kernel
theorem dX2_fetchRow_3 : decode cX2_fetchRow 3 = .ok (.iload_n 1, 1) := by decide +kernel
theorem dX2_fetchRow_4 : decode cX2_fetchRow 4 = .ok (.iconst 1, 1) := by decide +kernel
theorem dX2_fetchRow_5 : decode cX2_fetchRow 5 = .ok (.isub, 1) := by decide +kernel
theorem dX2_fetchRow_6 : decode cX2_fetchRow 6 = .ok (.if_icmp .ge 49, 3) := by decide +kernel
theorem dX2_fetchRow_9 : decode cX2_fetchRow 9 = .ok (.iconst 0, 1) := by decide +kernel
theorem dX2_fetchRow_10 : decode cX2_fetchRow 10 = .ok (.istore 4, 2) := by decide +kernel
theorem dX2_fetchRow_12 : decode cX2_fetchRow 12 = .ok (.iload 4, 2) := by decide +kernel
theorem dX2_fetchRow_14 : decode cX2_fetchRow 14 = .ok (.iconst 4, 1) := by decide +kernel
theorem dX2_fetchRow_15 : decode cX2_fetchRow 15 = .ok (.if_icmp .ge 34, 3) := by decide +kernel
theorem dX2_fetchRow_18 : decode cX2_fetchRow 18 = .ok (.aload_n 0, 1) := by decide +kernel
theorem dX2_fetchRow_19 : decode cX2_fetchRow 19 = .ok (.getfield 22, 3) := by decide +kernel
theorem dX2_fetchRow_22 : decode cX2_fetchRow 22 = .ok (.iload_n 3, 1) := by decide +kernel
theorem dX2_fetchRow_23 : decode cX2_fetchRow 23 = .ok (.iconst 4, 1) := by decide +kernel
theorem dX2_fetchRow_24 : decode cX2_fetchRow 24 = .ok (.imul, 1) := by decide +kernel
theorem dX2_fetchRow_25 : decode cX2_fetchRow 25 = .ok (.iload 4, 2) := by decide +kernel
theorem dX2_fetchRow_27 : decode cX2_fetchRow 27 = .ok (.iadd, 1) := by decide +kernel
theorem dX2_fetchRow_28 : decode cX2_fetchRow 28 = .ok (.aload_n 0, 1) := by decide +kernel
theorem dX2_fetchRow_29 : decode cX2_fetchRow 29 = .ok (.iload_n 1, 1) := by decide +kernel
theorem dX2_fetchRow_30 : decode cX2_fetchRow 30 = .ok (.iload_n 2, 1) := by decide +kernel
theorem dX2_fetchRow_31 : decode cX2_fetchRow 31 = .ok (.iload_n 1, 1) := by decide +kernel
theorem dX2_fetchRow_32 : decode cX2_fetchRow 32 = .ok (.iload_n 2, 1) := by decide +kernel
theorem dX2_fetchRow_33 : decode cX2_fetchRow 33 = .ok (.iload_n 3, 1) := by decide +kernel
theorem dX2_fetchRow_34 : decode cX2_fetchRow 34 = .ok (.invokestatic 220, 3) := by decide +kernel
theorem dX2_fetchRow_37 : decode cX2_fetchRow 37 = .ok (.iload 4, 2) := by decide +kernel
theorem dX2_fetchRow_39 : decode cX2_fetchRow 39 = .ok (.invokevirtual 224, 3) := by decide +kernel
theorem dX2_fetchRow_42 : decode cX2_fetchRow 42 = .ok (.iastore, 1) := by decide +kernel
theorem dX2_fetchRow_43 : decode cX2_fetchRow 43 = .ok (.iinc 4 1, 3) := by decide +kernel
theorem dX2_fetchRow_46 : decode cX2_fetchRow 46 = .ok (.goto (-34), 3) := by decide +kernel
theorem dX2_fetchRow_49 : decode cX2_fetchRow 49 = .ok (.iinc 3 1, 3) := by decide +kernel
theorem dX2_fetchRow_52 : decode cX2_fetchRow 52 = .ok (.goto (-50), 3) := by decide +kernel
theorem dX2_fetchRow_55 : decode cX2_fetchRow 55 = .ok (.return_, 1) := by decide +kernel
set_option maxRecDepth 20000 in
theorem ggX2_issueParity_X2_parityDisk : GoodIn wsX2_issueParity wsX2_parityDisk := goodIn_r _ [7] (by decide +kernel) (by decide +kernel)
set_option maxRecDepth 20000 in
theorem gX2_issueParity_X2_parityDisk : GoodIn wsX2_issueParity (va_wsS RX2 214 yX2_parityDisk wsX2_parityDisk) := goodIn_app (goodIn_of _ (by decide +kernel)) ggX2_issueParity_X2_parityDisk
set_option maxRecDepth 20000 in
theorem ggX2_issueParity_X0_issueBlock : GoodIn wsX2_issueParity wsX0_issueBlock := goodIn_r _ [12, 13, 14, 15, 16, 17, 18, 19, 30, 31, 32, 33, 34, 35, 36] (by decide +kernel) (by decide +kernel)
set_option maxRecDepth 20000 in
theorem gX2_issueParity_X0_issueBlock : GoodIn wsX2_issueParity (wsV RX2 255 RX0 yX0_issueBlock wsX0_issueBlock) := goodIn_app (goodIn_of _ (by decide +kernel)) ggX2_issueParity_X0_issueBlock
theorem dX2_issueParity_0 : decode cX2_issueParity 0 = .ok (.iconst 0, 1) := by decide +kernel
theorem dX2_issueParity_1 : decode cX2_issueParity 1 = .ok (.istore_n 3, 1) := by decide +kernel
theorem dX2_issueParity_2 : decode cX2_issueParity 2 = .ok (.iload_n 3, 1) := by decide +kernel
theorem dX2_issueParity_3 : decode cX2_issueParity 3 = .ok (.iconst 4, 1) := by decide +kernel
theorem dX2_issueParity_4 : decode cX2_issueParity 4 = .ok (.if_icmp .ge 53, 3) := by decide +kernel
theorem dX2_issueParity_7 : decode cX2_issueParity 7 = .ok (.aload_n 0, 1) := by decide +kernel
theorem dX2_issueParity_8 : decode cX2_issueParity 8 = .ok (.getfield 26, 3) := by decide +kernel
theorem dX2_issueParity_11 : decode cX2_issueParity 11 = .ok (.iload_n 3, 1) := by decide +kernel
theorem dX2_issueParity_12 : decode cX2_issueParity 12 = .ok (.iconst 0, 1) := by decide +kernel
theorem dX2_issueParity_13 : decode cX2_issueParity 13 = .ok (.iastore, 1) := by decide +kernel
theorem dX2_issueParity_14 : decode cX2_issueParity 14 = .ok (.iconst 0, 1) := by decide +kernel
theorem dX2_issueParity_15 : decode cX2_issueParity 15 = .ok (.istore 4, 2) := by decide +kernel
theorem dX2_issueParity_17 : decode cX2_issueParity 17 = .ok (.iload 4, 2) := by decide +kernel
theorem dX2_issueParity_19 : decode cX2_issueParity 19 = .ok (.iload_n 1, 1) := by decide +kernel
theorem dX2_issueParity_20 : decode cX2_issueParity 20 = .ok (.iconst 1, 1) := by decide +kernel
theorem dX2_issueParity_21 : decode cX2_issueParity 21 = .ok (.isub, 1) := by decide +kernel
theorem dX2_issueParity_22 : decode cX2_issueParity 22 = .ok (.if_icmp .ge 29, 3) := by decide +kernel
theorem dX2_issueParity_25 : decode cX2_issueParity 25 = .ok (.aload_n 0, 1) := by decide +kernel
theorem dX2_issueParity_26 : decode cX2_issueParity 26 = .ok (.getfield 26, 3) := by decide +kernel
theorem dX2_issueParity_29 : decode cX2_issueParity 29 = .ok (.iload_n 3, 1) := by decide +kernel
theorem dX2_issueParity_30 : decode cX2_issueParity 30 = .ok (.dup2, 1) := by decide +kernel
theorem dX2_issueParity_31 : decode cX2_issueParity 31 = .ok (.iaload, 1) := by decide +kernel
theorem dX2_issueParity_32 : decode cX2_issueParity 32 = .ok (.aload_n 0, 1) := by decide +kernel
theorem dX2_issueParity_33 : decode cX2_issueParity 33 = .ok (.getfield 22, 3) := by decide +kernel
theorem dX2_issueParity_36 : decode cX2_issueParity 36 = .ok (.iload 4, 2) := by decide +kernel
theorem dX2_issueParity_38 : decode cX2_issueParity 38 = .ok (.iconst 4, 1) := by decide +kernel
theorem dX2_issueParity_39 : decode cX2_issueParity 39 = .ok (.imul, 1) := by decide +kernel
theorem dX2_issueParity_40 : decode cX2_issueParity 40 = .ok (.iload_n 3, 1) := by decide +kernel
theorem dX2_issueParity_41 : decode cX2_issueParity 41 = .ok (.iadd, 1) := by decide +kernel
theorem dX2_issueParity_42 : decode cX2_issueParity 42 = .ok (.iaload, 1) := by decide +kernel
theorem dX2_issueParity_43 : decode cX2_issueParity 43 = .ok (.ixor, 1) := by decide +kernel
theorem dX2_issueParity_44 : decode cX2_issueParity 44 = .ok (.iastore, 1) := by decide +kernel
theorem dX2_issueParity_45 : decode cX2_issueParity 45 = .ok (.iinc 4 1, 3) := by decide +kernel
theorem dX2_issueParity_48 : decode cX2_issueParity 48 = .ok (.goto (-31), 3) := by decide +kernel
theorem dX2_issueParity_51 : decode cX2_issueParity 51 = .ok (.iinc 3 1, 3) := by decide +kernel
theorem dX2_issueParity_54 : decode cX2_issueParity 54 = .ok (.goto (-52), 3) := by decide +kernel
theorem dX2_issueParity_57 : decode cX2_issueParity 57 = .ok (.aload_n 0, 1) := by decide +kernel
theorem dX2_issueParity_58 : decode cX2_issueParity 58 = .ok (.getfield 11, 3) := by decide +kernel
theorem dX2_issueParity_61 : decode cX2_issueParity 61 = .ok (.iload_n 1, 1) := by decide +kernel
theorem dX2_issueParity_62 : decode cX2_issueParity 62 = .ok (.iload_n 2, 1) := by decide +kernel
theorem dX2_issueParity_63 : decode cX2_issueParity 63 = .ok (.invokestatic 214, 3) := by decide +kernel
theorem dX2_issueParity_66 : decode cX2_issueParity 66 = .ok (.aaload, 1) := by decide +kernel
theorem dX2_issueParity_67 : decode cX2_issueParity 67 = .ok (.iload_n 2, 1) := by decide +kernel
theorem dX2_issueParity_68 : decode cX2_issueParity 68 = .ok (.aload_n 0, 1) := by decide +kernel
theorem dX2_issueParity_69 : decode cX2_issueParity 69 = .ok (.getfield 26, 3) := by decide +kernel
theorem dX2_issueParity_72 : decode cX2_issueParity 72 = .ok (.iconst 0, 1) := by decide +kernel
theorem dX2_issueParity_73 : decode cX2_issueParity 73 = .ok (.invokevirtual 255, 3) := by decide +kernel
theorem dX2_issueParity_76 : decode cX2_issueParity 76 = .ok (.return_, 1) := by decide +kernel
set_option maxRecDepth 20000 in
theorem ggX2_fetchWindow_X2_firstOfWindow : GoodIn wsX2_fetchWindow wsX2_firstOfWindow := goodIn_r _ [7, 1, 55, 56, 57, 58, 59, 60, 61, 62, 63, 64, 65, 66, 67, 68, 69] (by decide +kernel) (by decide +kernel)
set_option maxRecDepth 20000 in
theorem gX2_fetchWindow_X2_firstOfWindow : GoodIn wsX2_fetchWindow (wsV RX2 211 RX2 yX2_firstOfWindow wsX2_firstOfWindow) := goodIn_app (goodIn_of _ (by decide +kernel)) ggX2_fetchWindow_X2_firstOfWindow
set_option maxRecDepth 20000 in
theorem ggX2_fetchWindow_X2_capacity : GoodIn wsX2_fetchWindow wsX2_capacity := goodIn_r _ [11, 1, 55, 56, 57, 58, 59, 60, 61, 62, 63, 64, 65, 66, 67, 68, 69] (by decide +kernel) (by decide +kernel)
set_option maxRecDepth 20000 in
theorem gX2_fetchWindow_X2_capacity : GoodIn wsX2_fetchWindow (wsV RX2 68 RX2 yX2_capacity wsX2_capacity) := goodIn_app (goodIn_of _ (by decide +kernel)) ggX2_fetchWindow_X2_capacity
set_option maxRecDepth 20000 in
theorem ggX2_fetchWindow_X2_wordOfBlock : GoodIn wsX2_fetchWindow wsX2_wordOfBlock := goodIn_r _ [15, 16, 17, 18, 6, 19, 1, 3, 4, 5, 7, 20, 21, 22, 23, 24, 25, 26, 27, 28, 29, 30, 31, 32, 33, 34, 35, 36, 37, 38, 39, 40, 41, 42, 43, 44, 45, 46, 47, 48, 49, 50, 51, 52, 53, 54, 55, 56, 57, 58, 59, 60, 61, 62, 63, 64, 65, 66, 67, 68, 69, 70, 71, 72, 73, 74, 75, 76] (by decide +kernel) (by decide +kernel)
set_option maxRecDepth 20000 in
theorem gX2_fetchWindow_X2_wordOfBlock : GoodIn wsX2_fetchWindow (wsV RX2 98 RX2 yX2_wordOfBlock wsX2_wordOfBlock) := goodIn_app (goodIn_of _ (by decide +kernel)) ggX2_fetchWindow_X2_wordOfBlock
theorem dX2_fetchWindow_0 : decode cX2_fetchWindow 0 = .ok (.iconst 0, 1) := by decide +kernel
theorem dX2_fetchWindow_1 : decode cX2_fetchWindow 1 = .ok (.istore_n 1, 1) := by decide +kernel
theorem dX2_fetchWindow_2 : decode cX2_fetchWindow 2 = .ok (.iload_n 1, 1) := by decide +kernel
theorem dX2_fetchWindow_3 : decode cX2_fetchWindow 3 = .ok (.aload_n 0, 1) := by decide +kernel
theorem dX2_fetchWindow_4 : decode cX2_fetchWindow 4 = .ok (.getfield 18, 3) := by decide +kernel
theorem dX2_fetchWindow_7 : decode cX2_fetchWindow 7 = .ok (.getfield 58, 3) := by decide +kernel
theorem dX2_fetchWindow_10 : decode cX2_fetchWindow 10 = .ok (.if_icmp .ge 57, 3) := by decide +kernel
theorem dX2_fetchWindow_13 : decode cX2_fetchWindow 13 = .ok (.aload_n 0, 1) := by decide +kernel
theorem dX2_fetchWindow_14 : decode cX2_fetchWindow 14 = .ok (.invokevirtual 211, 3) := by decide +kernel
theorem dX2_fetchWindow_17 : decode cX2_fetchWindow 17 = .ok (.iload_n 1, 1) := by decide +kernel
theorem dX2_fetchWindow_18 : decode cX2_fetchWindow 18 = .ok (.iadd, 1) := by decide +kernel
theorem dX2_fetchWindow_19 : decode cX2_fetchWindow 19 = .ok (.istore_n 2, 1) := by decide +kernel
theorem dX2_fetchWindow_20 : decode cX2_fetchWindow 20 = .ok (.iconst 0, 1) := by decide +kernel
theorem dX2_fetchWindow_21 : decode cX2_fetchWindow 21 = .ok (.istore_n 3, 1) := by decide +kernel
theorem dX2_fetchWindow_22 : decode cX2_fetchWindow 22 = .ok (.iload_n 3, 1) := by decide +kernel
theorem dX2_fetchWindow_23 : decode cX2_fetchWindow 23 = .ok (.iconst 4, 1) := by decide +kernel
theorem dX2_fetchWindow_24 : decode cX2_fetchWindow 24 = .ok (.if_icmp .ge 37, 3) := by decide +kernel
theorem dX2_fetchWindow_27 : decode cX2_fetchWindow 27 = .ok (.aload_n 0, 1) := by decide +kernel
theorem dX2_fetchWindow_28 : decode cX2_fetchWindow 28 = .ok (.getfield 22, 3) := by decide +kernel
theorem dX2_fetchWindow_31 : decode cX2_fetchWindow 31 = .ok (.iload_n 1, 1) := by decide +kernel
theorem dX2_fetchWindow_32 : decode cX2_fetchWindow 32 = .ok (.iconst 4, 1) := by decide +kernel
theorem dX2_fetchWindow_33 : decode cX2_fetchWindow 33 = .ok (.imul, 1) := by decide +kernel
theorem dX2_fetchWindow_34 : decode cX2_fetchWindow 34 = .ok (.iload_n 3, 1) := by decide +kernel
theorem dX2_fetchWindow_35 : decode cX2_fetchWindow 35 = .ok (.iadd, 1) := by decide +kernel
theorem dX2_fetchWindow_36 : decode cX2_fetchWindow 36 = .ok (.iload_n 2, 1) := by decide +kernel
theorem dX2_fetchWindow_37 : decode cX2_fetchWindow 37 = .ok (.aload_n 0, 1) := by decide +kernel
theorem dX2_fetchWindow_38 : decode cX2_fetchWindow 38 = .ok (.invokevirtual 68, 3) := by decide +kernel
theorem dX2_fetchWindow_41 : decode cX2_fetchWindow 41 = .ok (.if_icmp .ge 12, 3) := by decide +kernel
theorem dX2_fetchWindow_44 : decode cX2_fetchWindow 44 = .ok (.aload_n 0, 1) := by decide +kernel
theorem dX2_fetchWindow_45 : decode cX2_fetchWindow 45 = .ok (.iload_n 2, 1) := by decide +kernel
theorem dX2_fetchWindow_46 : decode cX2_fetchWindow 46 = .ok (.iload_n 3, 1) := by decide +kernel
theorem dX2_fetchWindow_47 : decode cX2_fetchWindow 47 = .ok (.invokevirtual 98, 3) := by decide +kernel
theorem dX2_fetchWindow_50 : decode cX2_fetchWindow 50 = .ok (.goto 4, 3) := by decide +kernel
theorem dX2_fetchWindow_53 : decode cX2_fetchWindow 53 = .ok (.iconst 0, 1) := by decide +kernel
theorem dX2_fetchWindow_54 : decode cX2_fetchWindow 54 = .ok (.iastore, 1) := by decide +kernel
theorem dX2_fetchWindow_55 : decode cX2_fetchWindow 55 = .ok (.iinc 3 1, 3) := by decide +kernel
theorem dX2_fetchWindow_58 : decode cX2_fetchWindow 58 = .ok (.goto (-36), 3) := by decide +kernel
theorem dX2_fetchWindow_61 : decode cX2_fetchWindow 61 = .ok (.iinc 1 1, 3) := by decide +kernel
theorem dX2_fetchWindow_64 : decode cX2_fetchWindow 64 = .ok (.goto (-62), 3) := by decide +kernel
theorem dX2_fetchWindow_67 : decode cX2_fetchWindow 67 = .ok (.return_, 1) := by decide +kernel
set_option maxRecDepth 20000 in
theorem ggX2_stashWindow_X0_issueBlock : GoodIn wsX2_stashWindow wsX0_issueBlock := goodIn_r _ [8, 9, 10, 11, 12, 13, 14, 15, 87, 88, 89, 90, 91, 92, 93] (by decide +kernel) (by decide +kernel)
set_option maxRecDepth 20000 in
theorem gX2_stashWindow_X0_issueBlock : GoodIn wsX2_stashWindow (wsV RX2 255 RX0 yX0_issueBlock wsX0_issueBlock) := goodIn_app (goodIn_of _ (by decide +kernel)) ggX2_stashWindow_X0_issueBlock
set_option maxRecDepth 20000 in
theorem ggX2_stashWindow_X2_awaitWrites : GoodIn wsX2_stashWindow wsX2_awaitWrites := goodIn_r _ [20, 21, 2, 22, 23, 24, 25, 19, 26, 27, 28, 29, 30, 31, 32, 33, 34, 35, 36, 7, 37, 9, 10, 38, 11, 39, 12, 13, 14, 15, 40, 41, 42, 43, 44, 45, 46, 47, 48, 49, 50, 51, 52, 53, 54, 55, 56, 57, 58, 59, 72, 73, 74, 75, 76, 77, 78, 79, 80, 81, 87, 88, 89, 90, 91, 92, 93, 82, 83, 84, 85, 86] (by decide +kernel) (by decide +kernel)
set_option maxRecDepth 20000 in
theorem gX2_stashWindow_X2_awaitWrites : GoodIn wsX2_stashWindow (wsV RX2 64 RX2 yX2_awaitWrites wsX2_awaitWrites) := goodIn_app (goodIn_of _ (by decide +kernel)) ggX2_stashWindow_X2_awaitWrites
set_option maxRecDepth 20000 in
theorem ggX2_stashWindow_X2_issueNewMarks : GoodIn wsX2_stashWindow wsX2_issueNewMarks := goodIn_r _ [63, 1, 2, 64, 65, 66, 19, 67, 68, 69, 70, 7, 71, 9, 10, 38, 50, 51, 52, 53, 54, 55, 56, 57, 58, 59, 72, 73, 74, 75, 76, 77, 78, 79, 80, 81, 82, 83, 84, 85, 86, 87, 88, 89, 90, 91, 92, 93] (by decide +kernel) (by decide +kernel)
set_option maxRecDepth 20000 in
theorem gX2_stashWindow_X2_issueNewMarks : GoodIn wsX2_stashWindow (wsV RX2 61 RX2 yX2_issueNewMarks wsX2_issueNewMarks) := goodIn_app (goodIn_of _ (by decide +kernel)) ggX2_stashWindow_X2_issueNewMarks
theorem dX2_stashWindow_0 : decode cX2_stashWindow 0 = .ok (.iconst 0, 1) := by decide +kernel
theorem dX2_stashWindow_1 : decode cX2_stashWindow 1 = .ok (.istore_n 1, 1) := by decide +kernel
theorem dX2_stashWindow_2 : decode cX2_stashWindow 2 = .ok (.iload_n 1, 1) := by decide +kernel
theorem dX2_stashWindow_3 : decode cX2_stashWindow 3 = .ok (.aload_n 0, 1) := by decide +kernel
theorem dX2_stashWindow_4 : decode cX2_stashWindow 4 = .ok (.getfield 18, 3) := by decide +kernel
theorem dX2_stashWindow_7 : decode cX2_stashWindow 7 = .ok (.getfield 58, 3) := by decide +kernel
theorem dX2_stashWindow_10 : decode cX2_stashWindow 10 = .ok (.if_icmp .ge 55, 3) := by decide +kernel
theorem dX2_stashWindow_13 : decode cX2_stashWindow 13 = .ok (.aload_n 0, 1) := by decide +kernel
theorem dX2_stashWindow_14 : decode cX2_stashWindow 14 = .ok (.getfield 11, 3) := by decide +kernel
theorem dX2_stashWindow_17 : decode cX2_stashWindow 17 = .ok (.aload_n 0, 1) := by decide +kernel
theorem dX2_stashWindow_18 : decode cX2_stashWindow 18 = .ok (.getfield 18, 3) := by decide +kernel
theorem dX2_stashWindow_21 : decode cX2_stashWindow 21 = .ok (.getfield 58, 3) := by decide +kernel
theorem dX2_stashWindow_24 : decode cX2_stashWindow 24 = .ok (.aaload, 1) := by decide +kernel
theorem dX2_stashWindow_25 : decode cX2_stashWindow 25 = .ok (.bipush 32, 2) := by decide +kernel
theorem dX2_stashWindow_27 : decode cX2_stashWindow 27 = .ok (.iload_n 1, 1) := by decide +kernel
theorem dX2_stashWindow_28 : decode cX2_stashWindow 28 = .ok (.iadd, 1) := by decide +kernel
theorem dX2_stashWindow_29 : decode cX2_stashWindow 29 = .ok (.aload_n 0, 1) := by decide +kernel
theorem dX2_stashWindow_30 : decode cX2_stashWindow 30 = .ok (.getfield 22, 3) := by decide +kernel
theorem dX2_stashWindow_33 : decode cX2_stashWindow 33 = .ok (.iload_n 1, 1) := by decide +kernel
theorem dX2_stashWindow_34 : decode cX2_stashWindow 34 = .ok (.iconst 4, 1) := by decide +kernel
theorem dX2_stashWindow_35 : decode cX2_stashWindow 35 = .ok (.imul, 1) := by decide +kernel
theorem dX2_stashWindow_36 : decode cX2_stashWindow 36 = .ok (.invokevirtual 255, 3) := by decide +kernel
theorem dX2_stashWindow_39 : decode cX2_stashWindow 39 = .ok (.aload_n 0, 1) := by decide +kernel
theorem dX2_stashWindow_40 : decode cX2_stashWindow 40 = .ok (.getfield 11, 3) := by decide +kernel
theorem dX2_stashWindow_43 : decode cX2_stashWindow 43 = .ok (.iconst 0, 1) := by decide +kernel
theorem dX2_stashWindow_44 : decode cX2_stashWindow 44 = .ok (.aaload, 1) := by decide +kernel
theorem dX2_stashWindow_45 : decode cX2_stashWindow 45 = .ok (.bipush 32, 2) := by decide +kernel
theorem dX2_stashWindow_47 : decode cX2_stashWindow 47 = .ok (.iload_n 1, 1) := by decide +kernel
theorem dX2_stashWindow_48 : decode cX2_stashWindow 48 = .ok (.iadd, 1) := by decide +kernel
theorem dX2_stashWindow_49 : decode cX2_stashWindow 49 = .ok (.aload_n 0, 1) := by decide +kernel
theorem dX2_stashWindow_50 : decode cX2_stashWindow 50 = .ok (.getfield 22, 3) := by decide +kernel
theorem dX2_stashWindow_53 : decode cX2_stashWindow 53 = .ok (.iload_n 1, 1) := by decide +kernel
theorem dX2_stashWindow_54 : decode cX2_stashWindow 54 = .ok (.iconst 4, 1) := by decide +kernel
theorem dX2_stashWindow_55 : decode cX2_stashWindow 55 = .ok (.imul, 1) := by decide +kernel
theorem dX2_stashWindow_56 : decode cX2_stashWindow 56 = .ok (.invokevirtual 255, 3) := by decide +kernel
theorem dX2_stashWindow_59 : decode cX2_stashWindow 59 = .ok (.iinc 1 1, 3) := by decide +kernel
theorem dX2_stashWindow_62 : decode cX2_stashWindow 62 = .ok (.goto (-60), 3) := by decide +kernel
theorem dX2_stashWindow_65 : decode cX2_stashWindow 65 = .ok (.aload_n 0, 1) := by decide +kernel
theorem dX2_stashWindow_66 : decode cX2_stashWindow 66 = .ok (.invokevirtual 64, 3) := by decide +kernel
theorem dX2_stashWindow_69 : decode cX2_stashWindow 69 = .ok (.ifCond .ne 5, 3) := by decide +kernel
theorem dX2_stashWindow_72 : decode cX2_stashWindow 72 = .ok (.iconst 0, 1) := by decide +kernel
theorem dX2_stashWindow_73 : decode cX2_stashWindow 73 = .ok (.ireturn, 1) := by decide +kernel
theorem dX2_stashWindow_74 : decode cX2_stashWindow 74 = .ok (.aload_n 0, 1) := by decide +kernel
theorem dX2_stashWindow_75 : decode cX2_stashWindow 75 = .ok (.getfield 18, 3) := by decide +kernel
theorem dX2_stashWindow_78 : decode cX2_stashWindow 78 = .ok (.iconst 1, 1) := by decide +kernel
theorem dX2_stashWindow_79 : decode cX2_stashWindow 79 = .ok (.putfield 113, 3) := by decide +kernel
theorem dX2_stashWindow_82 : decode cX2_stashWindow 82 = .ok (.aload_n 0, 1) := by decide +kernel
theorem dX2_stashWindow_83 : decode cX2_stashWindow 83 = .ok (.invokevirtual 61, 3) := by decide +kernel
theorem dX2_stashWindow_86 : decode cX2_stashWindow 86 = .ok (.aload_n 0, 1) := by decide +kernel
theorem dX2_stashWindow_87 : decode cX2_stashWindow 87 = .ok (.invokevirtual 64, 3) := by decide +kernel
theorem dX2_stashWindow_90 : decode cX2_stashWindow 90 = .ok (.ireturn, 1) := by decide +kernel
set_option maxRecDepth 20000 in
theorem ggX2_layWindow_X2_dataDisk : GoodIn wsX2_layWindow wsX2_dataDisk := goodIn_r _ [7, 8, 9, 6, 10] (by decide +kernel) (by decide +kernel)
set_option maxRecDepth 20000 in
theorem gX2_layWindow_X2_dataDisk : GoodIn wsX2_layWindow (va_wsS RX2 220 yX2_dataDisk wsX2_dataDisk) := goodIn_app (goodIn_of _ (by decide +kernel)) ggX2_layWindow_X2_dataDisk
set_option maxRecDepth 20000 in
theorem ggX2_layWindow_X0_issueBlock : GoodIn wsX2_layWindow wsX0_issueBlock := goodIn_r _ [15, 16, 17, 18, 19, 20, 21, 22, 86, 87, 88, 89, 90, 91, 92] (by decide +kernel) (by decide +kernel)
set_option maxRecDepth 20000 in
theorem gX2_layWindow_X0_issueBlock : GoodIn wsX2_layWindow (wsV RX2 255 RX0 yX0_issueBlock wsX0_issueBlock) := goodIn_app (goodIn_of _ (by decide +kernel)) ggX2_layWindow_X0_issueBlock
set_option maxRecDepth 20000 in
theorem ggX2_layWindow_X2_issueParity : GoodIn wsX2_layWindow wsX2_issueParity := goodIn_r _ [26, 27, 3, 2, 8, 9, 6, 10, 11, 12, 13, 14, 15, 16, 17, 18, 19, 20, 21, 22, 71, 72, 73, 74, 75, 76, 77, 78, 79, 80, 86, 87, 88, 89, 90, 91, 92] (by decide +kernel) (by decide +kernel)
set_option maxRecDepth 20000 in
theorem gX2_layWindow_X2_issueParity : GoodIn wsX2_layWindow (wsV RX2 259 RX2 yX2_issueParity wsX2_issueParity) := goodIn_app (goodIn_of _ (by decide +kernel)) ggX2_layWindow_X2_issueParity
set_option maxRecDepth 20000 in
theorem ggX2_layWindow_X2_awaitWrites : GoodIn wsX2_layWindow wsX2_awaitWrites := goodIn_r _ [31, 32, 2, 33, 34, 35, 36, 6, 37, 38, 39, 40, 41, 42, 43, 44, 45, 46, 47, 14, 48, 16, 17, 49, 18, 50, 19, 20, 21, 22, 51, 52, 53, 54, 55, 56, 57, 58, 59, 60, 61, 62, 63, 64, 65, 66, 67, 68, 69, 70, 71, 72, 73, 74, 75, 76, 77, 78, 79, 80, 86, 87, 88, 89, 90, 91, 92, 81, 82, 83, 84, 85] (by decide +kernel) (by decide +kernel)
set_option maxRecDepth 20000 in
theorem gX2_layWindow_X2_awaitWrites : GoodIn wsX2_layWindow (wsV RX2 64 RX2 yX2_awaitWrites wsX2_awaitWrites) := goodIn_app (goodIn_of _ (by decide +kernel)) ggX2_layWindow_X2_awaitWrites
theorem dX2_layWindow_0 : decode cX2_layWindow 0 = .ok (.aload_n 0, 1) := by decide +kernel
theorem dX2_layWindow_1 : decode cX2_layWindow 1 = .ok (.getfield 18, 3) := by decide +kernel
theorem dX2_layWindow_4 : decode cX2_layWindow 4 = .ok (.getfield 58, 3) := by decide +kernel
theorem dX2_layWindow_7 : decode cX2_layWindow 7 = .ok (.iconst 1, 1) := by decide +kernel
theorem dX2_layWindow_8 : decode cX2_layWindow 8 = .ok (.iadd, 1) := by decide +kernel
theorem dX2_layWindow_9 : decode cX2_layWindow 9 = .ok (.istore_n 1, 1) := by decide +kernel
theorem dX2_layWindow_10 : decode cX2_layWindow 10 = .ok (.iconst 0, 1) := by decide +kernel
theorem dX2_layWindow_11 : decode cX2_layWindow 11 = .ok (.istore_n 2, 1) := by decide +kernel
theorem dX2_layWindow_12 : decode cX2_layWindow 12 = .ok (.iload_n 2, 1) := by decide +kernel
theorem dX2_layWindow_13 : decode cX2_layWindow 13 = .ok (.aload_n 0, 1) := by decide +kernel
theorem dX2_layWindow_14 : decode cX2_layWindow 14 = .ok (.getfield 18, 3) := by decide +kernel
theorem dX2_layWindow_17 : decode cX2_layWindow 17 = .ok (.getfield 58, 3) := by decide +kernel
theorem dX2_layWindow_20 : decode cX2_layWindow 20 = .ok (.if_icmp .ge 43, 3) := by decide +kernel
theorem dX2_layWindow_23 : decode cX2_layWindow 23 = .ok (.aload_n 0, 1) := by decide +kernel
theorem dX2_layWindow_24 : decode cX2_layWindow 24 = .ok (.getfield 11, 3) := by decide +kernel
theorem dX2_layWindow_27 : decode cX2_layWindow 27 = .ok (.iload_n 1, 1) := by decide +kernel
theorem dX2_layWindow_28 : decode cX2_layWindow 28 = .ok (.aload_n 0, 1) := by decide +kernel
theorem dX2_layWindow_29 : decode cX2_layWindow 29 = .ok (.getfield 18, 3) := by decide +kernel
theorem dX2_layWindow_32 : decode cX2_layWindow 32 = .ok (.getfield 110, 3) := by decide +kernel
theorem dX2_layWindow_35 : decode cX2_layWindow 35 = .ok (.iload_n 2, 1) := by decide +kernel
theorem dX2_layWindow_36 : decode cX2_layWindow 36 = .ok (.invokestatic 220, 3) := by decide +kernel
theorem dX2_layWindow_39 : decode cX2_layWindow 39 = .ok (.aaload, 1) := by decide +kernel
theorem dX2_layWindow_40 : decode cX2_layWindow 40 = .ok (.aload_n 0, 1) := by decide +kernel
theorem dX2_layWindow_41 : decode cX2_layWindow 41 = .ok (.getfield 18, 3) := by decide +kernel
theorem dX2_layWindow_44 : decode cX2_layWindow 44 = .ok (.getfield 110, 3) := by decide +kernel
