theorem dX3_start_2 : decode cX3_start 2 = .ok (.putfield 44, 3) := by decide +kernel
theorem dX3_start_5 : decode cX3_start 5 = .ok (.aload_n 0, 1) := by decide +kernel
theorem dX3_start_6 : decode cX3_start 6 = .ok (.getfield 47, 3) := by decide +kernel
theorem dX3_start_9 : decode cX3_start 9 = .ok (.ifCond .eq 10, 3) := by decide +kernel
theorem dX3_start_12 : decode cX3_start 12 = .ok (.aload_n 0, 1) := by decide +kernel
theorem dX3_start_13 : decode cX3_start 13 = .ok (.getfield 51, 3) := by decide +kernel
theorem dX3_start_16 : decode cX3_start 16 = .ok (.ifCond .ne 9, 3) := by decide +kernel
theorem dX3_start_19 : decode cX3_start 19 = .ok (.aload_n 0, 1) := by decide +kernel
theorem dX3_start_20 : decode cX3_start 20 = .ok (.iconst 1, 1) := by decide +kernel
theorem dX3_start_21 : decode cX3_start 21 = .ok (.invokevirtual 125, 3) := by decide +kernel
theorem dX3_start_24 : decode cX3_start 24 = .ok (.ireturn, 1) := by decide +kernel
theorem dX3_start_25 : decode cX3_start 25 = .ok (.aload_n 0, 1) := by decide +kernel
theorem dX3_start_26 : decode cX3_start 26 = .ok (.iconst 0, 1) := by decide +kernel
theorem dX3_start_27 : decode cX3_start 27 = .ok (.putfield 51, 3) := by decide +kernel
theorem dX3_start_30 : decode cX3_start 30 = .ok (.iconst 0, 1) := by decide +kernel
theorem dX3_start_31 : decode cX3_start 31 = .ok (.istore_n 1, 1) := by decide +kernel
theorem dX3_start_32 : decode cX3_start 32 = .ok (.iconst 1, 1) := by decide +kernel
theorem dX3_start_33 : decode cX3_start 33 = .ok (.istore_n 2, 1) := by decide +kernel
theorem dX3_start_34 : decode cX3_start 34 = .ok (.iload_n 2, 1) := by decide +kernel
theorem dX3_start_35 : decode cX3_start 35 = .ok (.bipush 14, 2) := by decide +kernel
theorem dX3_start_37 : decode cX3_start 37 = .ok (.if_icmp .ge 34, 3) := by decide +kernel
theorem dX3_start_40 : decode cX3_start 40 = .ok (.aload_n 0, 1) := by decide +kernel
theorem dX3_start_41 : decode cX3_start 41 = .ok (.getfield 20, 3) := by decide +kernel
theorem dX3_start_44 : decode cX3_start 44 = .ok (.iconst 5, 1) := by decide +kernel
theorem dX3_start_45 : decode cX3_start 45 = .ok (.iload_n 2, 1) := by decide +kernel
theorem dX3_start_46 : decode cX3_start 46 = .ok (.imul, 1) := by decide +kernel
theorem dX3_start_47 : decode cX3_start 47 = .ok (.iaload, 1) := by decide +kernel
theorem dX3_start_48 : decode cX3_start 48 = .ok (.aload_n 0, 1) := by decide +kernel
theorem dX3_start_49 : decode cX3_start 49 = .ok (.getfield 20, 3) := by decide +kernel
theorem dX3_start_52 : decode cX3_start 52 = .ok (.iconst 5, 1) := by decide +kernel
theorem dX3_start_53 : decode cX3_start 53 = .ok (.iload_n 1, 1) := by decide +kernel
theorem dX3_start_54 : decode cX3_start 54 = .ok (.imul, 1) := by decide +kernel
theorem dX3_start_55 : decode cX3_start 55 = .ok (.iaload, 1) := by decide +kernel
theorem dX3_start_56 : decode cX3_start 56 = .ok (.if_icmp .le 7, 3) := by decide +kernel
theorem dX3_start_59 : decode cX3_start 59 = .ok (.iload_n 2, 1) := by decide +kernel
theorem dX3_start_60 : decode cX3_start 60 = .ok (.goto 4, 3) := by decide +kernel
theorem dX3_start_63 : decode cX3_start 63 = .ok (.iload_n 1, 1) := by decide +kernel
theorem dX3_start_64 : decode cX3_start 64 = .ok (.istore_n 1, 1) := by decide +kernel
theorem dX3_start_65 : decode cX3_start 65 = .ok (.iinc 2 1, 3) := by decide +kernel
theorem dX3_start_68 : decode cX3_start 68 = .ok (.goto (-34), 3) := by decide +kernel
theorem dX3_start_71 : decode cX3_start 71 = .ok (.aload_n 0, 1) := by decide +kernel
theorem dX3_start_72 : decode cX3_start 72 = .ok (.aload_n 0, 1) := by decide +kernel
theorem dX3_start_73 : decode cX3_start 73 = .ok (.getfield 20, 3) := by decide +kernel
theorem dX3_start_76 : decode cX3_start 76 = .ok (.iconst 5, 1) := by decide +kernel
theorem dX3_start_77 : decode cX3_start 77 = .ok (.iload_n 1, 1) := by decide +kernel
theorem dX3_start_78 : decode cX3_start 78 = .ok (.imul, 1) := by decide +kernel
theorem dX3_start_79 : decode cX3_start 79 = .ok (.iaload, 1) := by decide +kernel
theorem dX3_start_80 : decode cX3_start 80 = .ok (.putfield 106, 3) := by decide +kernel
theorem dX3_start_83 : decode cX3_start 83 = .ok (.aload_n 0, 1) := by decide +kernel
theorem dX3_start_84 : decode cX3_start 84 = .ok (.aload_n 0, 1) := by decide +kernel
theorem dX3_start_85 : decode cX3_start 85 = .ok (.getfield 20, 3) := by decide +kernel
theorem dX3_start_88 : decode cX3_start 88 = .ok (.iconst 5, 1) := by decide +kernel
theorem dX3_start_89 : decode cX3_start 89 = .ok (.iload_n 1, 1) := by decide +kernel
theorem dX3_start_90 : decode cX3_start 90 = .ok (.imul, 1) := by decide +kernel
theorem dX3_start_91 : decode cX3_start 91 = .ok (.iconst 1, 1) := by decide +kernel
theorem dX3_start_92 : decode cX3_start 92 = .ok (.iadd, 1) := by decide +kernel
theorem dX3_start_93 : decode cX3_start 93 = .ok (.iaload, 1) := by decide +kernel
theorem dX3_start_94 : decode cX3_start 94 = .ok (.putfield 57, 3) := by decide +kernel
theorem dX3_start_97 : decode cX3_start 97 = .ok (.aload_n 0, 1) := by decide +kernel
theorem dX3_start_98 : decode cX3_start 98 = .ok (.aload_n 0, 1) := by decide +kernel
theorem dX3_start_99 : decode cX3_start 99 = .ok (.getfield 20, 3) := by decide +kernel
theorem dX3_start_102 : decode cX3_start 102 = .ok (.iconst 5, 1) := by decide +kernel
theorem dX3_start_103 : decode cX3_start 103 = .ok (.iload_n 1, 1) := by decide +kernel
theorem dX3_start_104 : decode cX3_start 104 = .ok (.imul, 1) := by decide +kernel
theorem dX3_start_105 : decode cX3_start 105 = .ok (.iconst 2, 1) := by decide +kernel
theorem dX3_start_106 : decode cX3_start 106 = .ok (.iadd, 1) := by decide +kernel
theorem dX3_start_107 : decode cX3_start 107 = .ok (.iaload, 1) := by decide +kernel
theorem dX3_start_108 : decode cX3_start 108 = .ok (.iconst 1, 1) := by decide +kernel
theorem dX3_start_109 : decode cX3_start 109 = .ok (.if_icmp .ne 7, 3) := by decide +kernel
theorem dX3_start_112 : decode cX3_start 112 = .ok (.iconst 1, 1) := by decide +kernel
theorem dX3_start_113 : decode cX3_start 113 = .ok (.goto 4, 3) := by decide +kernel
theorem dX3_start_116 : decode cX3_start 116 = .ok (.iconst 0, 1) := by decide +kernel
theorem dX3_start_117 : decode cX3_start 117 = .ok (.putfield 54, 3) := by decide +kernel
theorem dX3_start_120 : decode cX3_start 120 = .ok (.aload_n 0, 1) := by decide +kernel
theorem dX3_start_121 : decode cX3_start 121 = .ok (.aload_n 0, 1) := by decide +kernel
theorem dX3_start_122 : decode cX3_start 122 = .ok (.getfield 20, 3) := by decide +kernel
theorem dX3_start_125 : decode cX3_start 125 = .ok (.iconst 5, 1) := by decide +kernel
theorem dX3_start_126 : decode cX3_start 126 = .ok (.iload_n 1, 1) := by decide +kernel
theorem dX3_start_127 : decode cX3_start 127 = .ok (.imul, 1) := by decide +kernel
theorem dX3_start_128 : decode cX3_start 128 = .ok (.iconst 3, 1) := by decide +kernel
theorem dX3_start_129 : decode cX3_start 129 = .ok (.iadd, 1) := by decide +kernel
theorem dX3_start_130 : decode cX3_start 130 = .ok (.iaload, 1) := by decide +kernel
theorem dX3_start_131 : decode cX3_start 131 = .ok (.putfield 64, 3) := by decide +kernel
theorem dX3_start_134 : decode cX3_start 134 = .ok (.aload_n 0, 1) := by decide +kernel
theorem dX3_start_135 : decode cX3_start 135 = .ok (.aload_n 0, 1) := by decide +kernel
theorem dX3_start_136 : decode cX3_start 136 = .ok (.getfield 20, 3) := by decide +kernel
theorem dX3_start_139 : decode cX3_start 139 = .ok (.iconst 5, 1) := by decide +kernel
theorem dX3_start_140 : decode cX3_start 140 = .ok (.iload_n 1, 1) := by decide +kernel
theorem dX3_start_141 : decode cX3_start 141 = .ok (.imul, 1) := by decide +kernel
theorem dX3_start_142 : decode cX3_start 142 = .ok (.iconst 4, 1) := by decide +kernel
theorem dX3_start_143 : decode cX3_start 143 = .ok (.iadd, 1) := by decide +kernel
theorem dX3_start_144 : decode cX3_start 144 = .ok (.iaload, 1) := by decide +kernel
theorem dX3_start_145 : decode cX3_start 145 = .ok (.iconst 1, 1) := by decide +kernel
theorem dX3_start_146 : decode cX3_start 146 = .ok (.if_icmp .ne 7, 3) := by decide +kernel
theorem dX3_start_149 : decode cX3_start 149 = .ok (.iconst 1, 1) := by decide +kernel
theorem dX3_start_150 : decode cX3_start 150 = .ok (.goto 4, 3) := by decide +kernel
theorem dX3_start_153 : decode cX3_start 153 = .ok (.iconst 0, 1) := by decide +kernel
theorem dX3_start_154 : decode cX3_start 154 = .ok (.putfield 67, 3) := by decide +kernel
theorem dX3_start_157 : decode cX3_start 157 = .ok (.iconst 0, 1) := by decide +kernel
theorem dX3_start_158 : decode cX3_start 158 = .ok (.istore_n 2, 1) := by decide +kernel
theorem dX3_start_159 : decode cX3_start 159 = .ok (.iload_n 2, 1) := by decide +kernel
theorem dX3_start_160 : decode cX3_start 160 = .ok (.bipush 32, 2) := by decide +kernel
theorem dX3_start_162 : decode cX3_start 162 = .ok (.if_icmp .ge 34, 3) := by decide +kernel
theorem dX3_start_165 : decode cX3_start 165 = .ok (.aload_n 0, 1) := by decide +kernel
theorem dX3_start_166 : decode cX3_start 166 = .ok (.getfield 67, 3) := by decide +kernel
theorem dX3_start_169 : decode cX3_start 169 = .ok (.ifCond .eq 11, 3) := by decide +kernel
theorem dX3_start_172 : decode cX3_start 172 = .ok (.iload_n 2, 1) := by decide +kernel
theorem dX3_start_173 : decode cX3_start 173 = .ok (.aload_n 0, 1) := by decide +kernel
theorem dX3_start_174 : decode cX3_start 174 = .ok (.getfield 64, 3) := by decide +kernel
theorem dX3_start_177 : decode cX3_start 177 = .ok (.if_icmp .eq 13, 3) := by decide +kernel
theorem dX3_start_180 : decode cX3_start 180 = .ok (.aload_n 0, 1) := by decide +kernel
theorem dX3_start_181 : decode cX3_start 181 = .ok (.aload_n 0, 1) := by decide +kernel
theorem dX3_start_182 : decode cX3_start 182 = .ok (.iload_n 2, 1) := by decide +kernel
theorem dX3_start_183 : decode cX3_start 183 = .ok (.invokevirtual 169, 3) := by decide +kernel
theorem dX3_start_186 : decode cX3_start 186 = .ok (.iload_n 2, 1) := by decide +kernel
theorem dX3_start_187 : decode cX3_start 187 = .ok (.invokevirtual 172, 3) := by decide +kernel
theorem dX3_start_190 : decode cX3_start 190 = .ok (.iinc 2 1, 3) := by decide +kernel
theorem dX3_start_193 : decode cX3_start 193 = .ok (.goto (-34), 3) := by decide +kernel
theorem dX3_start_196 : decode cX3_start 196 = .ok (.aload_n 0, 1) := by decide +kernel
theorem dX3_start_197 : decode cX3_start 197 = .ok (.getfield 67, 3) := by decide +kernel
theorem dX3_start_200 : decode cX3_start 200 = .ok (.ifCond .eq 7, 3) := by decide +kernel
theorem dX3_start_203 : decode cX3_start 203 = .ok (.iconst 2, 1) := by decide +kernel
theorem dX3_start_204 : decode cX3_start 204 = .ok (.goto 15, 3) := by decide +kernel
theorem dX3_start_207 : decode cX3_start 207 = .ok (.aload_n 0, 1) := by decide +kernel
theorem dX3_start_208 : decode cX3_start 208 = .ok (.getfield 54, 3) := by decide +kernel
theorem dX3_start_211 : decode cX3_start 211 = .ok (.ifCond .eq 7, 3) := by decide +kernel
theorem dX3_start_214 : decode cX3_start 214 = .ok (.iconst 1, 1) := by decide +kernel
theorem dX3_start_215 : decode cX3_start 215 = .ok (.goto 4, 3) := by decide +kernel
theorem dX3_start_218 : decode cX3_start 218 = .ok (.iconst 0, 1) := by decide +kernel
theorem dX3_start_219 : decode cX3_start 219 = .ok (.ireturn, 1) := by decide +kernel
set_option maxRecDepth 20000 in
theorem ggX3_good_X3_works : GoodIn wsX3_good wsX3_works := goodIn_r _ [7, 8, 9, 10, 38, 39, 40, 41, 42, 43, 44, 45, 46, 47, 48, 49, 50, 51, 52, 53, 54, 55, 56, 57, 58, 59, 60, 61] (by decide +kernel) (by decide +kernel)
set_option maxRecDepth 20000 in
theorem gX3_good_X3_works : GoodIn wsX3_good (wsV RX3 140 RX3 yX3_works wsX3_works) := goodIn_app (goodIn_of _ (by decide +kernel)) ggX3_good_X3_works
set_option maxRecDepth 20000 in
theorem ggX3_good_X3_within : GoodIn wsX3_good wsX3_within := goodIn_r _ [13] (by decide +kernel) (by decide +kernel)
set_option maxRecDepth 20000 in
theorem gX3_good_X3_within : GoodIn wsX3_good (va_wsS RX3 70 yX3_within wsX3_within) := goodIn_app (goodIn_of _ (by decide +kernel)) ggX3_good_X3_within
set_option maxRecDepth 20000 in
theorem ggX3_good_X3_fail : GoodIn wsX3_good wsX3_fail := goodIn_r _ [17, 10, 38, 39, 40, 41, 42, 43, 44, 45, 46, 47, 48, 49, 50, 51, 52, 53, 54, 55, 56, 57, 58, 59, 60, 61] (by decide +kernel) (by decide +kernel)
set_option maxRecDepth 20000 in
theorem gX3_good_X3_fail : GoodIn wsX3_good (wsV RX3 125 RX3 yX3_fail wsX3_fail) := goodIn_app (goodIn_of _ (by decide +kernel)) ggX3_good_X3_fail
set_option maxRecDepth 20000 in
theorem ggX3_good_X3_hasOut : GoodIn wsX3_good wsX3_hasOut := goodIn_r _ [21, 22, 23, 38, 39, 40, 41, 42, 43, 44, 45, 46, 47, 48, 49, 50, 51, 52, 53, 54, 55, 56, 57, 58, 59, 60, 61] (by decide +kernel) (by decide +kernel)
set_option maxRecDepth 20000 in
theorem gX3_good_X3_hasOut : GoodIn wsX3_good (wsV RX3 154 RX3 yX3_hasOut wsX3_hasOut) := goodIn_app (goodIn_of _ (by decide +kernel)) ggX3_good_X3_hasOut
set_option maxRecDepth 20000 in
theorem ggX3_good_X3_widthOf : GoodIn wsX3_good wsX3_widthOf := goodIn_r _ [27, 28, 2, 29, 38, 39, 40, 41, 42, 43, 44, 45, 46, 47, 48, 49, 50, 51, 52, 53, 54, 55, 56, 57, 58, 59, 60, 61] (by decide +kernel) (by decide +kernel)
set_option maxRecDepth 20000 in
theorem gX3_good_X3_widthOf : GoodIn wsX3_good (wsV RX3 169 RX3 yX3_widthOf wsX3_widthOf) := goodIn_app (goodIn_of _ (by decide +kernel)) ggX3_good_X3_widthOf
set_option maxRecDepth 20000 in
theorem ggX3_good_X3_isRight : GoodIn wsX3_good wsX3_isRight := goodIn_r _ [33, 34, 35, 36, 6, 37, 38, 39, 40, 41, 42, 43, 44, 45, 46, 47, 48, 49, 50, 51, 52, 53, 54, 55, 56, 57, 58, 59, 60, 61] (by decide +kernel) (by decide +kernel)
set_option maxRecDepth 20000 in
theorem gX3_good_X3_isRight : GoodIn wsX3_good (wsV RX3 175 RX3 yX3_isRight wsX3_isRight) := goodIn_app (goodIn_of _ (by decide +kernel)) ggX3_good_X3_isRight
theorem dX3_good_0 : decode cX3_good 0 = .ok (.aload_n 0, 1) := by decide +kernel
theorem dX3_good_1 : decode cX3_good 1 = .ok (.invokevirtual 140, 3) := by decide +kernel
theorem dX3_good_4 : decode cX3_good 4 = .ok (.ifCond .ne 5, 3) := by decide +kernel
theorem dX3_good_7 : decode cX3_good 7 = .ok (.iconst 0, 1) := by decide +kernel
theorem dX3_good_8 : decode cX3_good 8 = .ok (.ireturn, 1) := by decide +kernel
theorem dX3_good_9 : decode cX3_good 9 = .ok (.iload_n 1, 1) := by decide +kernel
theorem dX3_good_10 : decode cX3_good 10 = .ok (.iconst 0, 1) := by decide +kernel
theorem dX3_good_11 : decode cX3_good 11 = .ok (.bipush 31, 2) := by decide +kernel
theorem dX3_good_13 : decode cX3_good 13 = .ok (.invokestatic 70, 3) := by decide +kernel
theorem dX3_good_16 : decode cX3_good 16 = .ok (.ifCond .ne 17, 3) := by decide +kernel
theorem dX3_good_19 : decode cX3_good 19 = .ok (.aload_n 0, 1) := by decide +kernel
theorem dX3_good_20 : decode cX3_good 20 = .ok (.iconst 2, 1) := by decide +kernel
theorem dX3_good_21 : decode cX3_good 21 = .ok (.invokevirtual 125, 3) := by decide +kernel
theorem dX3_good_24 : decode cX3_good 24 = .ok (.ifCond .le 7, 3) := by decide +kernel
theorem dX3_good_27 : decode cX3_good 27 = .ok (.iconst 1, 1) := by decide +kernel
theorem dX3_good_28 : decode cX3_good 28 = .ok (.goto 4, 3) := by decide +kernel
theorem dX3_good_31 : decode cX3_good 31 = .ok (.iconst 0, 1) := by decide +kernel
theorem dX3_good_32 : decode cX3_good 32 = .ok (.ireturn, 1) := by decide +kernel
theorem dX3_good_33 : decode cX3_good 33 = .ok (.aload_n 0, 1) := by decide +kernel
theorem dX3_good_34 : decode cX3_good 34 = .ok (.invokevirtual 154, 3) := by decide +kernel
theorem dX3_good_37 : decode cX3_good 37 = .ok (.ifCond .ne 18, 3) := by decide +kernel
theorem dX3_good_40 : decode cX3_good 40 = .ok (.aload_n 0, 1) := by decide +kernel
theorem dX3_good_41 : decode cX3_good 41 = .ok (.getfield 67, 3) := by decide +kernel
theorem dX3_good_44 : decode cX3_good 44 = .ok (.ifCond .eq 25, 3) := by decide +kernel
theorem dX3_good_47 : decode cX3_good 47 = .ok (.iload_n 1, 1) := by decide +kernel
theorem dX3_good_48 : decode cX3_good 48 = .ok (.aload_n 0, 1) := by decide +kernel
theorem dX3_good_49 : decode cX3_good 49 = .ok (.getfield 64, 3) := by decide +kernel
theorem dX3_good_52 : decode cX3_good 52 = .ok (.if_icmp .ne 17, 3) := by decide +kernel
theorem dX3_good_55 : decode cX3_good 55 = .ok (.aload_n 0, 1) := by decide +kernel
theorem dX3_good_56 : decode cX3_good 56 = .ok (.iconst 3, 1) := by decide +kernel
theorem dX3_good_57 : decode cX3_good 57 = .ok (.invokevirtual 125, 3) := by decide +kernel
theorem dX3_good_60 : decode cX3_good 60 = .ok (.ifCond .le 7, 3) := by decide +kernel
theorem dX3_good_63 : decode cX3_good 63 = .ok (.iconst 1, 1) := by decide +kernel
theorem dX3_good_64 : decode cX3_good 64 = .ok (.goto 4, 3) := by decide +kernel
theorem dX3_good_67 : decode cX3_good 67 = .ok (.iconst 0, 1) := by decide +kernel
theorem dX3_good_68 : decode cX3_good 68 = .ok (.ireturn, 1) := by decide +kernel
theorem dX3_good_69 : decode cX3_good 69 = .ok (.aload_n 0, 1) := by decide +kernel
theorem dX3_good_70 : decode cX3_good 70 = .ok (.aload_n 0, 1) := by decide +kernel
theorem dX3_good_71 : decode cX3_good 71 = .ok (.iload_n 1, 1) := by decide +kernel
theorem dX3_good_72 : decode cX3_good 72 = .ok (.invokevirtual 169, 3) := by decide +kernel
theorem dX3_good_75 : decode cX3_good 75 = .ok (.iload_n 1, 1) := by decide +kernel
theorem dX3_good_76 : decode cX3_good 76 = .ok (.invokevirtual 175, 3) := by decide +kernel
theorem dX3_good_79 : decode cX3_good 79 = .ok (.ireturn, 1) := by decide +kernel
set_option maxRecDepth 20000 in
theorem ggX3_layout_X3_works : GoodIn wsX3_layout wsX3_works := goodIn_r _ [5, 6, 7, 8, 32, 33, 34, 35, 36, 37, 38, 39, 40, 41, 42, 43, 44, 45, 46, 47, 48, 49, 50, 51, 52, 53, 54, 55] (by decide +kernel) (by decide +kernel)
set_option maxRecDepth 20000 in
theorem gX3_layout_X3_works : GoodIn wsX3_layout (wsV RX3 140 RX3 yX3_works wsX3_works) := goodIn_app (goodIn_of _ (by decide +kernel)) ggX3_layout_X3_works
set_option maxRecDepth 20000 in
theorem ggX3_layout_X3_capacity : GoodIn wsX3_layout wsX3_capacity := goodIn_r _ [12, 13, 32, 33, 34, 35, 36, 37, 38, 39, 40, 41, 42, 43, 44, 45, 46, 47, 48, 49, 50, 51, 52, 53, 54, 55] (by decide +kernel) (by decide +kernel)
set_option maxRecDepth 20000 in
theorem gX3_layout_X3_capacity : GoodIn wsX3_layout (wsV RX3 82 RX3 yX3_capacity wsX3_capacity) := goodIn_app (goodIn_of _ (by decide +kernel)) ggX3_layout_X3_capacity
set_option maxRecDepth 20000 in
theorem ggX3_layout_X3_within : GoodIn wsX3_layout wsX3_within := goodIn_r _ [16] (by decide +kernel) (by decide +kernel)
set_option maxRecDepth 20000 in
theorem gX3_layout_X3_within : GoodIn wsX3_layout (va_wsS RX3 70 yX3_within wsX3_within) := goodIn_app (goodIn_of _ (by decide +kernel)) ggX3_layout_X3_within
set_option maxRecDepth 20000 in
theorem ggX3_layout_X3_fail : GoodIn wsX3_layout wsX3_fail := goodIn_r _ [20, 8, 32, 33, 34, 35, 36, 37, 38, 39, 40, 41, 42, 43, 44, 45, 46, 47, 48, 49, 50, 51, 52, 53, 54, 55] (by decide +kernel) (by decide +kernel)
set_option maxRecDepth 20000 in
theorem gX3_layout_X3_fail : GoodIn wsX3_layout (wsV RX3 125 RX3 yX3_fail wsX3_fail) := goodIn_app (goodIn_of _ (by decide +kernel)) ggX3_layout_X3_fail
set_option maxRecDepth 20000 in
theorem ggX3_layout_X3_isInWindow : GoodIn wsX3_layout wsX3_isInWindow := goodIn_r _ [24, 25, 26, 13, 14, 15, 4, 16, 32, 33, 34, 35, 36, 37, 38, 39, 40, 41, 42, 43, 44, 45, 46, 47, 48, 49, 50, 51, 52, 53, 54, 55] (by decide +kernel) (by decide +kernel)
set_option maxRecDepth 20000 in
theorem gX3_layout_X3_isInWindow : GoodIn wsX3_layout (wsV RX3 86 RX3 yX3_isInWindow wsX3_isInWindow) := goodIn_app (goodIn_of _ (by decide +kernel)) ggX3_layout_X3_isInWindow
set_option maxRecDepth 20000 in
theorem ggX3_layout_X3_isNew : GoodIn wsX3_layout wsX3_isNew := goodIn_r _ [30, 31, 26, 13, 32, 33, 34, 35, 36, 37, 38, 39, 40, 41, 42, 43, 44, 45, 46, 47, 48, 49, 50, 51, 52, 53, 54, 55] (by decide +kernel) (by decide +kernel)
set_option maxRecDepth 20000 in
theorem gX3_layout_X3_isNew : GoodIn wsX3_layout (wsV RX3 89 RX3 yX3_isNew wsX3_isNew) := goodIn_app (goodIn_of _ (by decide +kernel)) ggX3_layout_X3_isNew
theorem dX3_layout_0 : decode cX3_layout 0 = .ok (.aload_n 0, 1) := by decide +kernel
theorem dX3_layout_1 : decode cX3_layout 1 = .ok (.invokevirtual 140, 3) := by decide +kernel
theorem dX3_layout_4 : decode cX3_layout 4 = .ok (.ifCond .ne 5, 3) := by decide +kernel
theorem dX3_layout_7 : decode cX3_layout 7 = .ok (.iconst 0, 1) := by decide +kernel
theorem dX3_layout_8 : decode cX3_layout 8 = .ok (.ireturn, 1) := by decide +kernel
theorem dX3_layout_9 : decode cX3_layout 9 = .ok (.iload_n 1, 1) := by decide +kernel
theorem dX3_layout_10 : decode cX3_layout 10 = .ok (.iconst 0, 1) := by decide +kernel
theorem dX3_layout_11 : decode cX3_layout 11 = .ok (.aload_n 0, 1) := by decide +kernel
theorem dX3_layout_12 : decode cX3_layout 12 = .ok (.invokevirtual 82, 3) := by decide +kernel
theorem dX3_layout_15 : decode cX3_layout 15 = .ok (.iconst 1, 1) := by decide +kernel
theorem dX3_layout_16 : decode cX3_layout 16 = .ok (.isub, 1) := by decide +kernel
theorem dX3_layout_17 : decode cX3_layout 17 = .ok (.invokestatic 70, 3) := by decide +kernel
theorem dX3_layout_20 : decode cX3_layout 20 = .ok (.ifCond .ne 9, 3) := by decide +kernel
theorem dX3_layout_23 : decode cX3_layout 23 = .ok (.aload_n 0, 1) := by decide +kernel
theorem dX3_layout_24 : decode cX3_layout 24 = .ok (.iconst 2, 1) := by decide +kernel
theorem dX3_layout_25 : decode cX3_layout 25 = .ok (.invokevirtual 125, 3) := by decide +kernel
theorem dX3_layout_28 : decode cX3_layout 28 = .ok (.ireturn, 1) := by decide +kernel
theorem dX3_layout_29 : decode cX3_layout 29 = .ok (.aload_n 0, 1) := by decide +kernel
theorem dX3_layout_30 : decode cX3_layout 30 = .ok (.iload_n 1, 1) := by decide +kernel
theorem dX3_layout_31 : decode cX3_layout 31 = .ok (.invokevirtual 86, 3) := by decide +kernel
theorem dX3_layout_34 : decode cX3_layout 34 = .ok (.ifCond .eq 7, 3) := by decide +kernel
theorem dX3_layout_37 : decode cX3_layout 37 = .ok (.iconst 2, 1) := by decide +kernel
theorem dX3_layout_38 : decode cX3_layout 38 = .ok (.goto 16, 3) := by decide +kernel
theorem dX3_layout_41 : decode cX3_layout 41 = .ok (.aload_n 0, 1) := by decide +kernel
theorem dX3_layout_42 : decode cX3_layout 42 = .ok (.iload_n 1, 1) := by decide +kernel
theorem dX3_layout_43 : decode cX3_layout 43 = .ok (.invokevirtual 89, 3) := by decide +kernel
theorem dX3_layout_46 : decode cX3_layout 46 = .ok (.ifCond .eq 7, 3) := by decide +kernel
theorem dX3_layout_49 : decode cX3_layout 49 = .ok (.iconst 1, 1) := by decide +kernel
theorem dX3_layout_50 : decode cX3_layout 50 = .ok (.goto 4, 3) := by decide +kernel
theorem dX3_layout_53 : decode cX3_layout 53 = .ok (.iconst 0, 1) := by decide +kernel
theorem dX3_layout_54 : decode cX3_layout 54 = .ok (.ireturn, 1) := by decide +kernel
set_option maxRecDepth 20000 in
theorem ggX3_cell_X3_works : GoodIn wsX3_cell wsX3_works := goodIn_r _ [6, 7, 8, 9, 26, 27, 28, 29, 30, 31, 32, 33, 34, 35, 36, 37, 38, 39, 40, 41, 42, 43, 44, 45, 46, 47, 48, 49] (by decide +kernel) (by decide +kernel)
set_option maxRecDepth 20000 in
theorem gX3_cell_X3_works : GoodIn wsX3_cell (wsV RX3 140 RX3 yX3_works wsX3_works) := goodIn_app (goodIn_of _ (by decide +kernel)) ggX3_cell_X3_works
set_option maxRecDepth 20000 in
theorem ggX3_cell_X3_disks : GoodIn wsX3_cell wsX3_disks := goodIn_r _ [13, 14, 15, 26, 27, 28, 29, 30, 31, 32, 33, 34, 35, 36, 37, 38, 39, 40, 41, 42, 43, 44, 45, 46, 47, 48, 49] (by decide +kernel) (by decide +kernel)
set_option maxRecDepth 20000 in
theorem gX3_cell_X3_disks : GoodIn wsX3_cell (wsV RX3 163 RX3 yX3_disks wsX3_disks) := goodIn_app (goodIn_of _ (by decide +kernel)) ggX3_cell_X3_disks
set_option maxRecDepth 20000 in
theorem ggX3_cell_X3_within : GoodIn wsX3_cell wsX3_within := goodIn_r _ [18] (by decide +kernel) (by decide +kernel)
set_option maxRecDepth 20000 in
theorem gX3_cell_X3_within : GoodIn wsX3_cell (va_wsS RX3 70 yX3_within wsX3_within) := goodIn_app (goodIn_of _ (by decide +kernel)) ggX3_cell_X3_within
set_option maxRecDepth 20000 in
theorem ggX3_cell_X3_at : GoodIn wsX3_cell wsX3_at := goodIn_r _ [21] (by decide +kernel) (by decide +kernel)
set_option maxRecDepth 20000 in
theorem gX3_cell_X3_at : GoodIn wsX3_cell (va_wsS RX3 78 yX3_at wsX3_at) := goodIn_app (goodIn_of _ (by decide +kernel)) ggX3_cell_X3_at
set_option maxRecDepth 20000 in
theorem ggX3_cell_X3_fail : GoodIn wsX3_cell wsX3_fail := goodIn_r _ [25, 9, 26, 27, 28, 29, 30, 31, 32, 33, 34, 35, 36, 37, 38, 39, 40, 41, 42, 43, 44, 45, 46, 47, 48, 49] (by decide +kernel) (by decide +kernel)
set_option maxRecDepth 20000 in
theorem gX3_cell_X3_fail : GoodIn wsX3_cell (wsV RX3 125 RX3 yX3_fail wsX3_fail) := goodIn_app (goodIn_of _ (by decide +kernel)) ggX3_cell_X3_fail
theorem dX3_cell_0 : decode cX3_cell 0 = .ok (.aload_n 0, 1) := by decide +kernel
theorem dX3_cell_1 : decode cX3_cell 1 = .ok (.invokevirtual 140, 3) := by decide +kernel
theorem dX3_cell_4 : decode cX3_cell 4 = .ok (.ifCond .ne 5, 3) := by decide +kernel
theorem dX3_cell_7 : decode cX3_cell 7 = .ok (.iconst 0, 1) := by decide +kernel
theorem dX3_cell_8 : decode cX3_cell 8 = .ok (.ireturn, 1) := by decide +kernel
theorem dX3_cell_9 : decode cX3_cell 9 = .ok (.iload_n 1, 1) := by decide +kernel
theorem dX3_cell_10 : decode cX3_cell 10 = .ok (.iconst 0, 1) := by decide +kernel
theorem dX3_cell_11 : decode cX3_cell 11 = .ok (.aload_n 0, 1) := by decide +kernel
theorem dX3_cell_12 : decode cX3_cell 12 = .ok (.invokevirtual 163, 3) := by decide +kernel
theorem dX3_cell_15 : decode cX3_cell 15 = .ok (.iconst 1, 1) := by decide +kernel
theorem dX3_cell_16 : decode cX3_cell 16 = .ok (.isub, 1) := by decide +kernel
theorem dX3_cell_17 : decode cX3_cell 17 = .ok (.invokestatic 70, 3) := by decide +kernel
theorem dX3_cell_20 : decode cX3_cell 20 = .ok (.ifCond .eq 36, 3) := by decide +kernel
theorem dX3_cell_23 : decode cX3_cell 23 = .ok (.iload_n 2, 1) := by decide +kernel
theorem dX3_cell_24 : decode cX3_cell 24 = .ok (.iconst 0, 1) := by decide +kernel
theorem dX3_cell_25 : decode cX3_cell 25 = .ok (.bipush 39, 2) := by decide +kernel
theorem dX3_cell_27 : decode cX3_cell 27 = .ok (.invokestatic 70, 3) := by decide +kernel
theorem dX3_cell_30 : decode cX3_cell 30 = .ok (.ifCond .eq 26, 3) := by decide +kernel
theorem dX3_cell_33 : decode cX3_cell 33 = .ok (.iload_n 3, 1) := by decide +kernel
theorem dX3_cell_34 : decode cX3_cell 34 = .ok (.iconst 0, 1) := by decide +kernel
theorem dX3_cell_35 : decode cX3_cell 35 = .ok (.iconst 3, 1) := by decide +kernel
theorem dX3_cell_36 : decode cX3_cell 36 = .ok (.invokestatic 70, 3) := by decide +kernel
theorem dX3_cell_39 : decode cX3_cell 39 = .ok (.ifCond .eq 17, 3) := by decide +kernel
theorem dX3_cell_42 : decode cX3_cell 42 = .ok (.aload_n 0, 1) := by decide +kernel
theorem dX3_cell_43 : decode cX3_cell 43 = .ok (.getfield 16, 3) := by decide +kernel
theorem dX3_cell_46 : decode cX3_cell 46 = .ok (.iload_n 1, 1) := by decide +kernel
theorem dX3_cell_47 : decode cX3_cell 47 = .ok (.iload_n 2, 1) := by decide +kernel
theorem dX3_cell_48 : decode cX3_cell 48 = .ok (.iload_n 3, 1) := by decide +kernel
theorem dX3_cell_49 : decode cX3_cell 49 = .ok (.invokestatic 78, 3) := by decide +kernel
theorem dX3_cell_52 : decode cX3_cell 52 = .ok (.iaload, 1) := by decide +kernel
theorem dX3_cell_53 : decode cX3_cell 53 = .ok (.goto 8, 3) := by decide +kernel
theorem dX3_cell_56 : decode cX3_cell 56 = .ok (.aload_n 0, 1) := by decide +kernel
theorem dX3_cell_57 : decode cX3_cell 57 = .ok (.iconst 2, 1) := by decide +kernel
theorem dX3_cell_58 : decode cX3_cell 58 = .ok (.invokevirtual 125, 3) := by decide +kernel
theorem dX3_cell_61 : decode cX3_cell 61 = .ok (.ireturn, 1) := by decide +kernel
set_option maxRecDepth 20000 in
theorem ggX3_marks_X3_works : GoodIn wsX3_marks wsX3_works := goodIn_r _ [6, 7, 8, 9, 23, 24, 25, 26, 27, 28, 29, 30, 31, 32, 33, 34, 35, 36, 37, 38, 39, 40, 41, 42, 43, 44, 45, 46] (by decide +kernel) (by decide +kernel)
set_option maxRecDepth 20000 in
theorem gX3_marks_X3_works : GoodIn wsX3_marks (wsV RX3 140 RX3 yX3_works wsX3_works) := goodIn_app (goodIn_of _ (by decide +kernel)) ggX3_marks_X3_works
set_option maxRecDepth 20000 in
theorem ggX3_marks_X3_disks : GoodIn wsX3_marks wsX3_disks := goodIn_r _ [13, 14, 15, 23, 24, 25, 26, 27, 28, 29, 30, 31, 32, 33, 34, 35, 36, 37, 38, 39, 40, 41, 42, 43, 44, 45, 46] (by decide +kernel) (by decide +kernel)
set_option maxRecDepth 20000 in
theorem gX3_marks_X3_disks : GoodIn wsX3_marks (wsV RX3 163 RX3 yX3_disks wsX3_disks) := goodIn_app (goodIn_of _ (by decide +kernel)) ggX3_marks_X3_disks
set_option maxRecDepth 20000 in
theorem ggX3_marks_X3_within : GoodIn wsX3_marks wsX3_within := goodIn_r _ [18] (by decide +kernel) (by decide +kernel)
set_option maxRecDepth 20000 in
theorem gX3_marks_X3_within : GoodIn wsX3_marks (va_wsS RX3 70 yX3_within wsX3_within) := goodIn_app (goodIn_of _ (by decide +kernel)) ggX3_marks_X3_within
set_option maxRecDepth 20000 in
theorem ggX3_marks_X3_fail : GoodIn wsX3_marks wsX3_fail := goodIn_r _ [22, 9, 23, 24, 25, 26, 27, 28, 29, 30, 31, 32, 33, 34, 35, 36, 37, 38, 39, 40, 41, 42, 43, 44, 45, 46] (by decide +kernel) (by decide +kernel)
set_option maxRecDepth 20000 in
theorem gX3_marks_X3_fail : GoodIn wsX3_marks (wsV RX3 125 RX3 yX3_fail wsX3_fail) := goodIn_app (goodIn_of _ (by decide +kernel)) ggX3_marks_X3_fail
theorem dX3_marks_0 : decode cX3_marks 0 = .ok (.aload_n 0, 1) := by decide +kernel
theorem dX3_marks_1 : decode cX3_marks 1 = .ok (.invokevirtual 140, 3) := by decide +kernel
theorem dX3_marks_4 : decode cX3_marks 4 = .ok (.ifCond .ne 5, 3) := by decide +kernel
theorem dX3_marks_7 : decode cX3_marks 7 = .ok (.iconst 0, 1) := by decide +kernel
theorem dX3_marks_8 : decode cX3_marks 8 = .ok (.ireturn, 1) := by decide +kernel
theorem dX3_marks_9 : decode cX3_marks 9 = .ok (.iload_n 1, 1) := by decide +kernel
theorem dX3_marks_10 : decode cX3_marks 10 = .ok (.iconst 0, 1) := by decide +kernel
theorem dX3_marks_11 : decode cX3_marks 11 = .ok (.aload_n 0, 1) := by decide +kernel
theorem dX3_marks_12 : decode cX3_marks 12 = .ok (.invokevirtual 163, 3) := by decide +kernel
theorem dX3_marks_15 : decode cX3_marks 15 = .ok (.iconst 1, 1) := by decide +kernel
theorem dX3_marks_16 : decode cX3_marks 16 = .ok (.isub, 1) := by decide +kernel
theorem dX3_marks_17 : decode cX3_marks 17 = .ok (.invokestatic 70, 3) := by decide +kernel
theorem dX3_marks_20 : decode cX3_marks 20 = .ok (.ifCond .eq 28, 3) := by decide +kernel
theorem dX3_marks_23 : decode cX3_marks 23 = .ok (.iload_n 2, 1) := by decide +kernel
theorem dX3_marks_24 : decode cX3_marks 24 = .ok (.iconst 0, 1) := by decide +kernel
theorem dX3_marks_25 : decode cX3_marks 25 = .ok (.iconst 1, 1) := by decide +kernel
theorem dX3_marks_26 : decode cX3_marks 26 = .ok (.invokestatic 70, 3) := by decide +kernel
theorem dX3_marks_29 : decode cX3_marks 29 = .ok (.ifCond .eq 19, 3) := by decide +kernel
theorem dX3_marks_32 : decode cX3_marks 32 = .ok (.aload_n 0, 1) := by decide +kernel
theorem dX3_marks_33 : decode cX3_marks 33 = .ok (.getfield 20, 3) := by decide +kernel
theorem dX3_marks_36 : decode cX3_marks 36 = .ok (.bipush 10, 2) := by decide +kernel
theorem dX3_marks_38 : decode cX3_marks 38 = .ok (.iload_n 1, 1) := by decide +kernel
theorem dX3_marks_39 : decode cX3_marks 39 = .ok (.imul, 1) := by decide +kernel
theorem dX3_marks_40 : decode cX3_marks 40 = .ok (.iconst 5, 1) := by decide +kernel
theorem dX3_marks_41 : decode cX3_marks 41 = .ok (.iload_n 2, 1) := by decide +kernel
theorem dX3_marks_42 : decode cX3_marks 42 = .ok (.imul, 1) := by decide +kernel
theorem dX3_marks_43 : decode cX3_marks 43 = .ok (.iadd, 1) := by decide +kernel
theorem dX3_marks_44 : decode cX3_marks 44 = .ok (.iaload, 1) := by decide +kernel
theorem dX3_marks_45 : decode cX3_marks 45 = .ok (.goto 8, 3) := by decide +kernel
theorem dX3_marks_48 : decode cX3_marks 48 = .ok (.aload_n 0, 1) := by decide +kernel
theorem dX3_marks_49 : decode cX3_marks 49 = .ok (.iconst 2, 1) := by decide +kernel
theorem dX3_marks_50 : decode cX3_marks 50 = .ok (.invokevirtual 125, 3) := by decide +kernel
theorem dX3_marks_53 : decode cX3_marks 53 = .ok (.ireturn, 1) := by decide +kernel
set_option maxRecDepth 20000 in
theorem ggX3_count_X3_within : GoodIn wsX3_count wsX3_within := goodIn_r _ [12] (by decide +kernel) (by decide +kernel)
set_option maxRecDepth 20000 in
theorem gX3_count_X3_within : GoodIn wsX3_count (va_wsS RX3 70 yX3_within wsX3_within) := goodIn_app (goodIn_of _ (by decide +kernel)) ggX3_count_X3_within
set_option maxRecDepth 20000 in
theorem ggX3_count_X3_disks : GoodIn wsX3_count wsX3_disks := goodIn_r _ [16, 5, 17, 22, 23, 24, 25, 26, 27, 28, 29, 30, 31, 32, 33, 34, 35, 36, 37, 38, 39, 40, 41, 42, 43, 44, 45] (by decide +kernel) (by decide +kernel)
set_option maxRecDepth 20000 in
theorem gX3_count_X3_disks : GoodIn wsX3_count (wsV RX3 163 RX3 yX3_disks wsX3_disks) := goodIn_app (goodIn_of _ (by decide +kernel)) ggX3_count_X3_disks
set_option maxRecDepth 20000 in
theorem ggX3_count_X3_capacity : GoodIn wsX3_count wsX3_capacity := goodIn_r _ [21, 17, 22, 23, 24, 25, 26, 27, 28, 29, 30, 31, 32, 33, 34, 35, 36, 37, 38, 39, 40, 41, 42, 43, 44, 45] (by decide +kernel) (by decide +kernel)
set_option maxRecDepth 20000 in
theorem gX3_count_X3_capacity : GoodIn wsX3_count (wsV RX3 82 RX3 yX3_capacity wsX3_capacity) := goodIn_app (goodIn_of _ (by decide +kernel)) ggX3_count_X3_capacity
theorem dX3_count_0 : decode cX3_count 0 = .ok (.aload_n 0, 1) := by decide +kernel
theorem dX3_count_1 : decode cX3_count 1 = .ok (.iconst 0, 1) := by decide +kernel
theorem dX3_count_2 : decode cX3_count 2 = .ok (.putfield 44, 3) := by decide +kernel
theorem dX3_count_5 : decode cX3_count 5 = .ok (.iload_n 1, 1) := by decide +kernel
theorem dX3_count_6 : decode cX3_count 6 = .ok (.iconst 0, 1) := by decide +kernel
theorem dX3_count_7 : decode cX3_count 7 = .ok (.bipush 7, 2) := by decide +kernel
theorem dX3_count_9 : decode cX3_count 9 = .ok (.invokestatic 70, 3) := by decide +kernel
theorem dX3_count_12 : decode cX3_count 12 = .ok (.ifCond .ne 5, 3) := by decide +kernel
theorem dX3_count_15 : decode cX3_count 15 = .ok (.iconst (-1), 1) := by decide +kernel
theorem dX3_count_16 : decode cX3_count 16 = .ok (.ireturn, 1) := by decide +kernel
theorem dX3_count_17 : decode cX3_count 17 = .ok (.iload_n 1, 1) := by decide +kernel
theorem dX3_count_18 : decode cX3_count 18 = .ok (.bipush 7, 2) := by decide +kernel
theorem dX3_count_20 : decode cX3_count 20 = .ok (.if_icmp .ne 16, 3) := by decide +kernel
theorem dX3_count_23 : decode cX3_count 23 = .ok (.aload_n 0, 1) := by decide +kernel
theorem dX3_count_24 : decode cX3_count 24 = .ok (.getfield 51, 3) := by decide +kernel
theorem dX3_count_27 : decode cX3_count 27 = .ok (.ifCond .eq 7, 3) := by decide +kernel
theorem dX3_count_30 : decode cX3_count 30 = .ok (.iconst 1, 1) := by decide +kernel
theorem dX3_count_31 : decode cX3_count 31 = .ok (.goto 4, 3) := by decide +kernel
theorem dX3_count_34 : decode cX3_count 34 = .ok (.iconst 0, 1) := by decide +kernel
theorem dX3_count_35 : decode cX3_count 35 = .ok (.ireturn, 1) := by decide +kernel
theorem dX3_count_36 : decode cX3_count 36 = .ok (.aload_n 0, 1) := by decide +kernel
theorem dX3_count_37 : decode cX3_count 37 = .ok (.getfield 47, 3) := by decide +kernel
theorem dX3_count_40 : decode cX3_count 40 = .ok (.ifCond .eq 10, 3) := by decide +kernel
theorem dX3_count_43 : decode cX3_count 43 = .ok (.aload_n 0, 1) := by decide +kernel
theorem dX3_count_44 : decode cX3_count 44 = .ok (.getfield 51, 3) := by decide +kernel
theorem dX3_count_47 : decode cX3_count 47 = .ok (.ifCond .eq 5, 3) := by decide +kernel
theorem dX3_count_50 : decode cX3_count 50 = .ok (.iconst (-1), 1) := by decide +kernel
theorem dX3_count_51 : decode cX3_count 51 = .ok (.ireturn, 1) := by decide +kernel
theorem dX3_count_52 : decode cX3_count 52 = .ok (.iload_n 1, 1) := by decide +kernel
theorem dX3_count_53 : decode cX3_count 53 = .ok (.iconst 3, 1) := by decide +kernel
theorem dX3_count_54 : decode cX3_count 54 = .ok (.if_icmp .ge 31, 3) := by decide +kernel
theorem dX3_count_57 : decode cX3_count 57 = .ok (.iload_n 1, 1) := by decide +kernel
theorem dX3_count_58 : decode cX3_count 58 = .ok (.ifCond .ne 10, 3) := by decide +kernel
theorem dX3_count_61 : decode cX3_count 61 = .ok (.aload_n 0, 1) := by decide +kernel
theorem dX3_count_62 : decode cX3_count 62 = .ok (.invokevirtual 163, 3) := by decide +kernel
theorem dX3_count_65 : decode cX3_count 65 = .ok (.goto 19, 3) := by decide +kernel
theorem dX3_count_68 : decode cX3_count 68 = .ok (.iload_n 1, 1) := by decide +kernel
theorem dX3_count_69 : decode cX3_count 69 = .ok (.iconst 1, 1) := by decide +kernel
theorem dX3_count_70 : decode cX3_count 70 = .ok (.if_icmp .ne 10, 3) := by decide +kernel
theorem dX3_count_73 : decode cX3_count 73 = .ok (.aload_n 0, 1) := by decide +kernel
theorem dX3_count_74 : decode cX3_count 74 = .ok (.invokevirtual 82, 3) := by decide +kernel
theorem dX3_count_77 : decode cX3_count 77 = .ok (.goto 7, 3) := by decide +kernel
theorem dX3_count_80 : decode cX3_count 80 = .ok (.aload_n 0, 1) := by decide +kernel
theorem dX3_count_81 : decode cX3_count 81 = .ok (.getfield 64, 3) := by decide +kernel
theorem dX3_count_84 : decode cX3_count 84 = .ok (.ireturn, 1) := by decide +kernel
theorem dX3_count_85 : decode cX3_count 85 = .ok (.iload_n 1, 1) := by decide +kernel
theorem dX3_count_86 : decode cX3_count 86 = .ok (.iconst 3, 1) := by decide +kernel
theorem dX3_count_87 : decode cX3_count 87 = .ok (.if_icmp .ne 18, 3) := by decide +kernel
theorem dX3_count_90 : decode cX3_count 90 = .ok (.aload_n 0, 1) := by decide +kernel
theorem dX3_count_91 : decode cX3_count 91 = .ok (.getfield 54, 3) := by decide +kernel
theorem dX3_count_94 : decode cX3_count 94 = .ok (.ifCond .eq 7, 3) := by decide +kernel
theorem dX3_count_97 : decode cX3_count 97 = .ok (.iconst 1, 1) := by decide +kernel
theorem dX3_count_98 : decode cX3_count 98 = .ok (.goto 43, 3) := by decide +kernel
theorem dX3_count_101 : decode cX3_count 101 = .ok (.iconst 0, 1) := by decide +kernel
theorem dX3_count_102 : decode cX3_count 102 = .ok (.goto 39, 3) := by decide +kernel
theorem dX3_count_105 : decode cX3_count 105 = .ok (.iload_n 1, 1) := by decide +kernel
theorem dX3_count_106 : decode cX3_count 106 = .ok (.iconst 4, 1) := by decide +kernel
theorem dX3_count_107 : decode cX3_count 107 = .ok (.if_icmp .ne 18, 3) := by decide +kernel
theorem dX3_count_110 : decode cX3_count 110 = .ok (.aload_n 0, 1) := by decide +kernel
theorem dX3_count_111 : decode cX3_count 111 = .ok (.getfield 67, 3) := by decide +kernel
theorem dX3_count_114 : decode cX3_count 114 = .ok (.ifCond .eq 7, 3) := by decide +kernel
theorem dX3_count_117 : decode cX3_count 117 = .ok (.iconst 1, 1) := by decide +kernel
theorem dX3_count_118 : decode cX3_count 118 = .ok (.goto 23, 3) := by decide +kernel
theorem dX3_count_121 : decode cX3_count 121 = .ok (.iconst 0, 1) := by decide +kernel
theorem dX3_count_122 : decode cX3_count 122 = .ok (.goto 19, 3) := by decide +kernel
theorem dX3_count_125 : decode cX3_count 125 = .ok (.iload_n 1, 1) := by decide +kernel
theorem dX3_count_126 : decode cX3_count 126 = .ok (.iconst 5, 1) := by decide +kernel
theorem dX3_count_127 : decode cX3_count 127 = .ok (.if_icmp .ne 10, 3) := by decide +kernel
theorem dX3_count_130 : decode cX3_count 130 = .ok (.aload_n 0, 1) := by decide +kernel
theorem dX3_count_131 : decode cX3_count 131 = .ok (.getfield 7, 3) := by decide +kernel
theorem dX3_count_134 : decode cX3_count 134 = .ok (.goto 7, 3) := by decide +kernel
theorem dX3_count_137 : decode cX3_count 137 = .ok (.aload_n 0, 1) := by decide +kernel
theorem dX3_count_138 : decode cX3_count 138 = .ok (.getfield 13, 3) := by decide +kernel
theorem dX3_count_141 : decode cX3_count 141 = .ok (.ireturn, 1) := by decide +kernel
theorem dJ9_min_7cf53_0 : decode cJ9_min_7cf53 0 = .ok (.iload_n 0, 1) := by decide +kernel
theorem dJ9_min_7cf53_1 : decode cJ9_min_7cf53 1 = .ok (.iload_n 1, 1) := by decide +kernel
theorem dJ9_min_7cf53_2 : decode cJ9_min_7cf53 2 = .ok (.if_icmp .gt 7, 3) := by decide +kernel
theorem dJ9_min_7cf53_5 : decode cJ9_min_7cf53 5 = .ok (.iload_n 0, 1) := by decide +kernel
theorem dJ9_min_7cf53_6 : decode cJ9_min_7cf53 6 = .ok (.goto 4, 3) := by decide +kernel
theorem dJ9_min_7cf53_9 : decode cJ9_min_7cf53 9 = .ok (.iload_n 1, 1) := by decide +kernel
theorem dJ9_min_7cf53_10 : decode cJ9_min_7cf53 10 = .ok (.ireturn, 1) := by decide +kernel
theorem dJ7_fill_53178_0 : decode cJ7_fill_53178 0 = .ok (.iconst 0, 1) := by decide +kernel
theorem dJ7_fill_53178_1 : decode cJ7_fill_53178 1 = .ok (.istore_n 2, 1) := by decide +kernel
theorem dJ7_fill_53178_2 : decode cJ7_fill_53178 2 = .ok (.aload_n 0, 1) := by decide +kernel
theorem dJ7_fill_53178_3 : decode cJ7_fill_53178 3 = .ok (.arraylength, 1) := by decide +kernel
theorem dJ7_fill_53178_4 : decode cJ7_fill_53178 4 = .ok (.istore_n 3, 1) := by decide +kernel
theorem dJ7_fill_53178_5 : decode cJ7_fill_53178 5 = .ok (.iload_n 2, 1) := by decide +kernel
theorem dJ7_fill_53178_6 : decode cJ7_fill_53178 6 = .ok (.iload_n 3, 1) := by decide +kernel
theorem dJ7_fill_53178_7 : decode cJ7_fill_53178 7 = .ok (.if_icmp .ge 13, 3) := by decide +kernel
theorem dJ7_fill_53178_10 : decode cJ7_fill_53178 10 = .ok (.aload_n 0, 1) := by decide +kernel
theorem dJ7_fill_53178_11 : decode cJ7_fill_53178 11 = .ok (.iload_n 2, 1) := by decide +kernel
theorem dJ7_fill_53178_12 : decode cJ7_fill_53178 12 = .ok (.iload_n 1, 1) := by decide +kernel
theorem dJ7_fill_53178_13 : decode cJ7_fill_53178 13 = .ok (.iastore, 1) := by decide +kernel
theorem dJ7_fill_53178_14 : decode cJ7_fill_53178 14 = .ok (.iinc 2 1, 3) := by decide +kernel
theorem dJ7_fill_53178_17 : decode cJ7_fill_53178 17 = .ok (.goto (-12), 3) := by decide +kernel
theorem dJ7_fill_53178_20 : decode cJ7_fill_53178 20 = .ok (.return_, 1) := by decide +kernel
abbrev vwCl : List vw_C := [(RX0, TX0, 7), (RX1, TX1, 5), (RX2, TX2, 10), (RX3, TX3, 24)]
