theorem dX3_perform_22 : decode cX3_perform 22 = .ok (.ifCond .ge 59, 3) := by decide +kernel
theorem dX3_perform_25 : decode cX3_perform 25 = .ok (.aload_n 0, 1) := by decide +kernel
theorem dX3_perform_26 : decode cX3_perform 26 = .ok (.getfield 29, 3) := by decide +kernel
theorem dX3_perform_29 : decode cX3_perform 29 = .ok (.iconst 5, 1) := by decide +kernel
theorem dX3_perform_30 : decode cX3_perform 30 = .ok (.iload_n 1, 1) := by decide +kernel
theorem dX3_perform_31 : decode cX3_perform 31 = .ok (.imul, 1) := by decide +kernel
theorem dX3_perform_32 : decode cX3_perform 32 = .ok (.iaload, 1) := by decide +kernel
theorem dX3_perform_33 : decode cX3_perform 33 = .ok (.iconst 2, 1) := by decide +kernel
theorem dX3_perform_34 : decode cX3_perform 34 = .ok (.irem, 1) := by decide +kernel
theorem dX3_perform_35 : decode cX3_perform 35 = .ok (.istore_n 3, 1) := by decide +kernel
theorem dX3_perform_36 : decode cX3_perform 36 = .ok (.iconst 0, 1) := by decide +kernel
theorem dX3_perform_37 : decode cX3_perform 37 = .ok (.istore 4, 2) := by decide +kernel
theorem dX3_perform_39 : decode cX3_perform 39 = .ok (.iload 4, 2) := by decide +kernel
theorem dX3_perform_41 : decode cX3_perform 41 = .ok (.iconst 5, 1) := by decide +kernel
theorem dX3_perform_42 : decode cX3_perform 42 = .ok (.if_icmp .ge 36, 3) := by decide +kernel
theorem dX3_perform_45 : decode cX3_perform 45 = .ok (.aload_n 0, 1) := by decide +kernel
theorem dX3_perform_46 : decode cX3_perform 46 = .ok (.getfield 20, 3) := by decide +kernel
theorem dX3_perform_49 : decode cX3_perform 49 = .ok (.bipush 10, 2) := by decide +kernel
theorem dX3_perform_51 : decode cX3_perform 51 = .ok (.iload_n 2, 1) := by decide +kernel
theorem dX3_perform_52 : decode cX3_perform 52 = .ok (.imul, 1) := by decide +kernel
theorem dX3_perform_53 : decode cX3_perform 53 = .ok (.iconst 5, 1) := by decide +kernel
theorem dX3_perform_54 : decode cX3_perform 54 = .ok (.iload_n 3, 1) := by decide +kernel
theorem dX3_perform_55 : decode cX3_perform 55 = .ok (.imul, 1) := by decide +kernel
theorem dX3_perform_56 : decode cX3_perform 56 = .ok (.iadd, 1) := by decide +kernel
theorem dX3_perform_57 : decode cX3_perform 57 = .ok (.iload 4, 2) := by decide +kernel
theorem dX3_perform_59 : decode cX3_perform 59 = .ok (.iadd, 1) := by decide +kernel
theorem dX3_perform_60 : decode cX3_perform 60 = .ok (.aload_n 0, 1) := by decide +kernel
theorem dX3_perform_61 : decode cX3_perform 61 = .ok (.getfield 29, 3) := by decide +kernel
theorem dX3_perform_64 : decode cX3_perform 64 = .ok (.iconst 5, 1) := by decide +kernel
theorem dX3_perform_65 : decode cX3_perform 65 = .ok (.iload_n 1, 1) := by decide +kernel
theorem dX3_perform_66 : decode cX3_perform 66 = .ok (.imul, 1) := by decide +kernel
theorem dX3_perform_67 : decode cX3_perform 67 = .ok (.iload 4, 2) := by decide +kernel
theorem dX3_perform_69 : decode cX3_perform 69 = .ok (.iadd, 1) := by decide +kernel
theorem dX3_perform_70 : decode cX3_perform 70 = .ok (.iaload, 1) := by decide +kernel
theorem dX3_perform_71 : decode cX3_perform 71 = .ok (.iastore, 1) := by decide +kernel
theorem dX3_perform_72 : decode cX3_perform 72 = .ok (.iinc 4 1, 3) := by decide +kernel
theorem dX3_perform_75 : decode cX3_perform 75 = .ok (.goto (-36), 3) := by decide +kernel
theorem dX3_perform_78 : decode cX3_perform 78 = .ok (.goto 42, 3) := by decide +kernel
theorem dX3_perform_81 : decode cX3_perform 81 = .ok (.iconst 0, 1) := by decide +kernel
theorem dX3_perform_82 : decode cX3_perform 82 = .ok (.istore_n 3, 1) := by decide +kernel
theorem dX3_perform_83 : decode cX3_perform 83 = .ok (.iload_n 3, 1) := by decide +kernel
theorem dX3_perform_84 : decode cX3_perform 84 = .ok (.iconst 4, 1) := by decide +kernel
theorem dX3_perform_85 : decode cX3_perform 85 = .ok (.if_icmp .ge 35, 3) := by decide +kernel
theorem dX3_perform_88 : decode cX3_perform 88 = .ok (.aload_n 0, 1) := by decide +kernel
theorem dX3_perform_89 : decode cX3_perform 89 = .ok (.getfield 16, 3) := by decide +kernel
theorem dX3_perform_92 : decode cX3_perform 92 = .ok (.iload_n 2, 1) := by decide +kernel
theorem dX3_perform_93 : decode cX3_perform 93 = .ok (.aload_n 0, 1) := by decide +kernel
theorem dX3_perform_94 : decode cX3_perform 94 = .ok (.getfield 26, 3) := by decide +kernel
theorem dX3_perform_97 : decode cX3_perform 97 = .ok (.iload_n 1, 1) := by decide +kernel
theorem dX3_perform_98 : decode cX3_perform 98 = .ok (.iaload, 1) := by decide +kernel
theorem dX3_perform_99 : decode cX3_perform 99 = .ok (.iload_n 3, 1) := by decide +kernel
theorem dX3_perform_100 : decode cX3_perform 100 = .ok (.invokestatic 78, 3) := by decide +kernel
theorem dX3_perform_103 : decode cX3_perform 103 = .ok (.aload_n 0, 1) := by decide +kernel
theorem dX3_perform_104 : decode cX3_perform 104 = .ok (.getfield 29, 3) := by decide +kernel
theorem dX3_perform_107 : decode cX3_perform 107 = .ok (.iconst 5, 1) := by decide +kernel
theorem dX3_perform_108 : decode cX3_perform 108 = .ok (.iload_n 1, 1) := by decide +kernel
theorem dX3_perform_109 : decode cX3_perform 109 = .ok (.imul, 1) := by decide +kernel
theorem dX3_perform_110 : decode cX3_perform 110 = .ok (.iload_n 3, 1) := by decide +kernel
theorem dX3_perform_111 : decode cX3_perform 111 = .ok (.iadd, 1) := by decide +kernel
theorem dX3_perform_112 : decode cX3_perform 112 = .ok (.iaload, 1) := by decide +kernel
theorem dX3_perform_113 : decode cX3_perform 113 = .ok (.iastore, 1) := by decide +kernel
theorem dX3_perform_114 : decode cX3_perform 114 = .ok (.iinc 3 1, 3) := by decide +kernel
theorem dX3_perform_117 : decode cX3_perform 117 = .ok (.goto (-34), 3) := by decide +kernel
theorem dX3_perform_120 : decode cX3_perform 120 = .ok (.return_, 1) := by decide +kernel
set_option maxRecDepth 20000 in
theorem ggX3_holds_X3_perform : GoodIn wsX3_holds wsX3_perform := goodIn_r _ [14, 6, 15, 16, 17, 18, 19, 20, 21, 13, 22, 23, 24, 25, 26, 27, 28, 29, 30, 31, 32, 33, 34, 35, 36, 37, 38, 39, 40, 41, 42, 43, 44, 45, 46, 47, 48, 49, 50, 51] (by decide +kernel) (by decide +kernel)
set_option maxRecDepth 20000 in
theorem gX3_holds_X3_perform : GoodIn wsX3_holds (wsV RX3 121 RX3 yX3_perform wsX3_perform) := goodIn_app (goodIn_of _ (by decide +kernel)) ggX3_holds_X3_perform
theorem dX3_holds_0 : decode cX3_holds 0 = .ok (.aload_n 0, 1) := by decide +kernel
theorem dX3_holds_1 : decode cX3_holds 1 = .ok (.dup, 1) := by decide +kernel
theorem dX3_holds_2 : decode cX3_holds 2 = .ok (.getfield 109, 3) := by decide +kernel
theorem dX3_holds_5 : decode cX3_holds 5 = .ok (.iconst 1, 1) := by decide +kernel
theorem dX3_holds_6 : decode cX3_holds 6 = .ok (.iadd, 1) := by decide +kernel
theorem dX3_holds_7 : decode cX3_holds 7 = .ok (.putfield 109, 3) := by decide +kernel
theorem dX3_holds_10 : decode cX3_holds 10 = .ok (.aload_n 0, 1) := by decide +kernel
theorem dX3_holds_11 : decode cX3_holds 11 = .ok (.getfield 112, 3) := by decide +kernel
theorem dX3_holds_14 : decode cX3_holds 14 = .ok (.ifCond .eq 22, 3) := by decide +kernel
theorem dX3_holds_17 : decode cX3_holds 17 = .ok (.aload_n 0, 1) := by decide +kernel
theorem dX3_holds_18 : decode cX3_holds 18 = .ok (.getfield 109, 3) := by decide +kernel
theorem dX3_holds_21 : decode cX3_holds 21 = .ok (.aload_n 0, 1) := by decide +kernel
theorem dX3_holds_22 : decode cX3_holds 22 = .ok (.getfield 115, 3) := by decide +kernel
theorem dX3_holds_25 : decode cX3_holds 25 = .ok (.if_icmp .eq 7, 3) := by decide +kernel
theorem dX3_holds_28 : decode cX3_holds 28 = .ok (.iload_n 1, 1) := by decide +kernel
theorem dX3_holds_29 : decode cX3_holds 29 = .ok (.ifCond .eq 7, 3) := by decide +kernel
theorem dX3_holds_32 : decode cX3_holds 32 = .ok (.iconst 1, 1) := by decide +kernel
theorem dX3_holds_33 : decode cX3_holds 33 = .ok (.goto 4, 3) := by decide +kernel
theorem dX3_holds_36 : decode cX3_holds 36 = .ok (.iconst 0, 1) := by decide +kernel
theorem dX3_holds_37 : decode cX3_holds 37 = .ok (.istore_n 2, 1) := by decide +kernel
theorem dX3_holds_38 : decode cX3_holds 38 = .ok (.iconst 0, 1) := by decide +kernel
theorem dX3_holds_39 : decode cX3_holds 39 = .ok (.istore_n 3, 1) := by decide +kernel
theorem dX3_holds_40 : decode cX3_holds 40 = .ok (.iload_n 3, 1) := by decide +kernel
theorem dX3_holds_41 : decode cX3_holds 41 = .ok (.bipush 7, 2) := by decide +kernel
theorem dX3_holds_43 : decode cX3_holds 43 = .ok (.if_icmp .ge 16, 3) := by decide +kernel
theorem dX3_holds_46 : decode cX3_holds 46 = .ok (.aload_n 0, 1) := by decide +kernel
theorem dX3_holds_47 : decode cX3_holds 47 = .ok (.getfield 32, 3) := by decide +kernel
theorem dX3_holds_50 : decode cX3_holds 50 = .ok (.iload_n 3, 1) := by decide +kernel
theorem dX3_holds_51 : decode cX3_holds 51 = .ok (.iconst 0, 1) := by decide +kernel
theorem dX3_holds_52 : decode cX3_holds 52 = .ok (.iastore, 1) := by decide +kernel
theorem dX3_holds_53 : decode cX3_holds 53 = .ok (.iinc 3 1, 3) := by decide +kernel
theorem dX3_holds_56 : decode cX3_holds 56 = .ok (.goto (-16), 3) := by decide +kernel
theorem dX3_holds_59 : decode cX3_holds 59 = .ok (.iconst 0, 1) := by decide +kernel
theorem dX3_holds_60 : decode cX3_holds 60 = .ok (.istore_n 3, 1) := by decide +kernel
theorem dX3_holds_61 : decode cX3_holds 61 = .ok (.iload_n 3, 1) := by decide +kernel
theorem dX3_holds_62 : decode cX3_holds 62 = .ok (.aload_n 0, 1) := by decide +kernel
theorem dX3_holds_63 : decode cX3_holds 63 = .ok (.getfield 99, 3) := by decide +kernel
theorem dX3_holds_66 : decode cX3_holds 66 = .ok (.if_icmp .ge 24, 3) := by decide +kernel
theorem dX3_holds_69 : decode cX3_holds 69 = .ok (.aload_n 0, 1) := by decide +kernel
theorem dX3_holds_70 : decode cX3_holds 70 = .ok (.getfield 32, 3) := by decide +kernel
theorem dX3_holds_73 : decode cX3_holds 73 = .ok (.aload_n 0, 1) := by decide +kernel
theorem dX3_holds_74 : decode cX3_holds 74 = .ok (.getfield 23, 3) := by decide +kernel
theorem dX3_holds_77 : decode cX3_holds 77 = .ok (.iload_n 3, 1) := by decide +kernel
theorem dX3_holds_78 : decode cX3_holds 78 = .ok (.iaload, 1) := by decide +kernel
theorem dX3_holds_79 : decode cX3_holds 79 = .ok (.dup2, 1) := by decide +kernel
theorem dX3_holds_80 : decode cX3_holds 80 = .ok (.iaload, 1) := by decide +kernel
theorem dX3_holds_81 : decode cX3_holds 81 = .ok (.iconst 1, 1) := by decide +kernel
theorem dX3_holds_82 : decode cX3_holds 82 = .ok (.iadd, 1) := by decide +kernel
theorem dX3_holds_83 : decode cX3_holds 83 = .ok (.iastore, 1) := by decide +kernel
theorem dX3_holds_84 : decode cX3_holds 84 = .ok (.iinc 3 1, 3) := by decide +kernel
theorem dX3_holds_87 : decode cX3_holds 87 = .ok (.goto (-26), 3) := by decide +kernel
theorem dX3_holds_90 : decode cX3_holds 90 = .ok (.iconst 0, 1) := by decide +kernel
theorem dX3_holds_91 : decode cX3_holds 91 = .ok (.istore_n 3, 1) := by decide +kernel
theorem dX3_holds_92 : decode cX3_holds 92 = .ok (.iload_n 3, 1) := by decide +kernel
theorem dX3_holds_93 : decode cX3_holds 93 = .ok (.bipush 7, 2) := by decide +kernel
theorem dX3_holds_95 : decode cX3_holds 95 = .ok (.if_icmp .ge 48, 3) := by decide +kernel
theorem dX3_holds_98 : decode cX3_holds 98 = .ok (.aload_n 0, 1) := by decide +kernel
theorem dX3_holds_99 : decode cX3_holds 99 = .ok (.getfield 35, 3) := by decide +kernel
theorem dX3_holds_102 : decode cX3_holds 102 = .ok (.iload_n 3, 1) := by decide +kernel
theorem dX3_holds_103 : decode cX3_holds 103 = .ok (.iload_n 2, 1) := by decide +kernel
theorem dX3_holds_104 : decode cX3_holds 104 = .ok (.ifCond .eq 26, 3) := by decide +kernel
theorem dX3_holds_107 : decode cX3_holds 107 = .ok (.aload_n 0, 1) := by decide +kernel
theorem dX3_holds_108 : decode cX3_holds 108 = .ok (.getfield 118, 3) := by decide +kernel
theorem dX3_holds_111 : decode cX3_holds 111 = .ok (.iconst 4, 1) := by decide +kernel
theorem dX3_holds_112 : decode cX3_holds 112 = .ok (.iload_n 3, 1) := by decide +kernel
theorem dX3_holds_113 : decode cX3_holds 113 = .ok (.imul, 1) := by decide +kernel
theorem dX3_holds_114 : decode cX3_holds 114 = .ok (.ishr, 1) := by decide +kernel
theorem dX3_holds_115 : decode cX3_holds 115 = .ok (.bipush 15, 2) := by decide +kernel
theorem dX3_holds_117 : decode cX3_holds 117 = .ok (.iand, 1) := by decide +kernel
theorem dX3_holds_118 : decode cX3_holds 118 = .ok (.aload_n 0, 1) := by decide +kernel
theorem dX3_holds_119 : decode cX3_holds 119 = .ok (.getfield 32, 3) := by decide +kernel
theorem dX3_holds_122 : decode cX3_holds 122 = .ok (.iload_n 3, 1) := by decide +kernel
theorem dX3_holds_123 : decode cX3_holds 123 = .ok (.iaload, 1) := by decide +kernel
theorem dX3_holds_124 : decode cX3_holds 124 = .ok (.iconst 1, 1) := by decide +kernel
theorem dX3_holds_125 : decode cX3_holds 125 = .ok (.iadd, 1) := by decide +kernel
theorem dX3_holds_126 : decode cX3_holds 126 = .ok (.irem, 1) := by decide +kernel
theorem dX3_holds_127 : decode cX3_holds 127 = .ok (.goto 9, 3) := by decide +kernel
theorem dX3_holds_130 : decode cX3_holds 130 = .ok (.aload_n 0, 1) := by decide +kernel
theorem dX3_holds_131 : decode cX3_holds 131 = .ok (.getfield 32, 3) := by decide +kernel
theorem dX3_holds_134 : decode cX3_holds 134 = .ok (.iload_n 3, 1) := by decide +kernel
theorem dX3_holds_135 : decode cX3_holds 135 = .ok (.iaload, 1) := by decide +kernel
theorem dX3_holds_136 : decode cX3_holds 136 = .ok (.iastore, 1) := by decide +kernel
theorem dX3_holds_137 : decode cX3_holds 137 = .ok (.iinc 3 1, 3) := by decide +kernel
theorem dX3_holds_140 : decode cX3_holds 140 = .ok (.goto (-48), 3) := by decide +kernel
theorem dX3_holds_143 : decode cX3_holds 143 = .ok (.iconst 0, 1) := by decide +kernel
theorem dX3_holds_144 : decode cX3_holds 144 = .ok (.istore_n 3, 1) := by decide +kernel
theorem dX3_holds_145 : decode cX3_holds 145 = .ok (.iload_n 3, 1) := by decide +kernel
theorem dX3_holds_146 : decode cX3_holds 146 = .ok (.aload_n 0, 1) := by decide +kernel
theorem dX3_holds_147 : decode cX3_holds 147 = .ok (.getfield 99, 3) := by decide +kernel
theorem dX3_holds_150 : decode cX3_holds 150 = .ok (.if_icmp .ge 43, 3) := by decide +kernel
theorem dX3_holds_153 : decode cX3_holds 153 = .ok (.aload_n 0, 1) := by decide +kernel
theorem dX3_holds_154 : decode cX3_holds 154 = .ok (.getfield 35, 3) := by decide +kernel
theorem dX3_holds_157 : decode cX3_holds 157 = .ok (.aload_n 0, 1) := by decide +kernel
theorem dX3_holds_158 : decode cX3_holds 158 = .ok (.getfield 23, 3) := by decide +kernel
theorem dX3_holds_161 : decode cX3_holds 161 = .ok (.iload_n 3, 1) := by decide +kernel
theorem dX3_holds_162 : decode cX3_holds 162 = .ok (.iaload, 1) := by decide +kernel
theorem dX3_holds_163 : decode cX3_holds 163 = .ok (.iaload, 1) := by decide +kernel
theorem dX3_holds_164 : decode cX3_holds 164 = .ok (.ifCond .le 8, 3) := by decide +kernel
theorem dX3_holds_167 : decode cX3_holds 167 = .ok (.aload_n 0, 1) := by decide +kernel
theorem dX3_holds_168 : decode cX3_holds 168 = .ok (.iload_n 3, 1) := by decide +kernel
theorem dX3_holds_169 : decode cX3_holds 169 = .ok (.invokevirtual 121, 3) := by decide +kernel
theorem dX3_holds_172 : decode cX3_holds 172 = .ok (.aload_n 0, 1) := by decide +kernel
theorem dX3_holds_173 : decode cX3_holds 173 = .ok (.getfield 35, 3) := by decide +kernel
theorem dX3_holds_176 : decode cX3_holds 176 = .ok (.aload_n 0, 1) := by decide +kernel
theorem dX3_holds_177 : decode cX3_holds 177 = .ok (.getfield 23, 3) := by decide +kernel
theorem dX3_holds_180 : decode cX3_holds 180 = .ok (.iload_n 3, 1) := by decide +kernel
theorem dX3_holds_181 : decode cX3_holds 181 = .ok (.iaload, 1) := by decide +kernel
theorem dX3_holds_182 : decode cX3_holds 182 = .ok (.dup2, 1) := by decide +kernel
theorem dX3_holds_183 : decode cX3_holds 183 = .ok (.iaload, 1) := by decide +kernel
theorem dX3_holds_184 : decode cX3_holds 184 = .ok (.iconst 1, 1) := by decide +kernel
theorem dX3_holds_185 : decode cX3_holds 185 = .ok (.isub, 1) := by decide +kernel
theorem dX3_holds_186 : decode cX3_holds 186 = .ok (.iastore, 1) := by decide +kernel
theorem dX3_holds_187 : decode cX3_holds 187 = .ok (.iinc 3 1, 3) := by decide +kernel
theorem dX3_holds_190 : decode cX3_holds 190 = .ok (.goto (-45), 3) := by decide +kernel
theorem dX3_holds_193 : decode cX3_holds 193 = .ok (.aload_n 0, 1) := by decide +kernel
theorem dX3_holds_194 : decode cX3_holds 194 = .ok (.iconst 0, 1) := by decide +kernel
theorem dX3_holds_195 : decode cX3_holds 195 = .ok (.putfield 99, 3) := by decide +kernel
theorem dX3_holds_198 : decode cX3_holds 198 = .ok (.iload_n 2, 1) := by decide +kernel
theorem dX3_holds_199 : decode cX3_holds 199 = .ok (.ifCond .eq 13, 3) := by decide +kernel
theorem dX3_holds_202 : decode cX3_holds 202 = .ok (.aload_n 0, 1) := by decide +kernel
theorem dX3_holds_203 : decode cX3_holds 203 = .ok (.iconst 0, 1) := by decide +kernel
theorem dX3_holds_204 : decode cX3_holds 204 = .ok (.putfield 112, 3) := by decide +kernel
theorem dX3_holds_207 : decode cX3_holds 207 = .ok (.aload_n 0, 1) := by decide +kernel
theorem dX3_holds_208 : decode cX3_holds 208 = .ok (.iconst 1, 1) := by decide +kernel
theorem dX3_holds_209 : decode cX3_holds 209 = .ok (.putfield 51, 3) := by decide +kernel
theorem dX3_holds_212 : decode cX3_holds 212 = .ok (.iload_n 2, 1) := by decide +kernel
theorem dX3_holds_213 : decode cX3_holds 213 = .ok (.ifCond .ne 7, 3) := by decide +kernel
theorem dX3_holds_216 : decode cX3_holds 216 = .ok (.iconst 1, 1) := by decide +kernel
theorem dX3_holds_217 : decode cX3_holds 217 = .ok (.goto 4, 3) := by decide +kernel
theorem dX3_holds_220 : decode cX3_holds 220 = .ok (.iconst 0, 1) := by decide +kernel
theorem dX3_holds_221 : decode cX3_holds 221 = .ok (.ireturn, 1) := by decide +kernel
theorem dX3_begin_0 : decode cX3_begin 0 = .ok (.aload_n 0, 1) := by decide +kernel
theorem dX3_begin_1 : decode cX3_begin 1 = .ok (.iconst 0, 1) := by decide +kernel
theorem dX3_begin_2 : decode cX3_begin 2 = .ok (.putfield 109, 3) := by decide +kernel
theorem dX3_begin_5 : decode cX3_begin 5 = .ok (.aload_n 0, 1) := by decide +kernel
theorem dX3_begin_6 : decode cX3_begin 6 = .ok (.iconst 0, 1) := by decide +kernel
theorem dX3_begin_7 : decode cX3_begin 7 = .ok (.putfield 99, 3) := by decide +kernel
theorem dX3_begin_10 : decode cX3_begin 10 = .ok (.return_, 1) := by decide +kernel
set_option maxRecDepth 20000 in
theorem ggX3_format_X3_within : GoodIn wsX3_format wsX3_within := goodIn_r _ [17] (by decide +kernel) (by decide +kernel)
set_option maxRecDepth 20000 in
theorem gX3_format_X3_within : GoodIn wsX3_format (va_wsS RX3 70 yX3_within wsX3_within) := goodIn_app (goodIn_of _ (by decide +kernel)) ggX3_format_X3_within
set_option maxRecDepth 20000 in
theorem ggX3_format_X3_fail : GoodIn wsX3_format wsX3_fail := goodIn_r _ [21, 1, 62, 63, 64, 65, 66, 67, 68, 69, 70, 71, 72, 73, 74, 75, 76, 77, 78, 79, 80, 81, 82, 83, 84, 85] (by decide +kernel) (by decide +kernel)
set_option maxRecDepth 20000 in
theorem gX3_format_X3_fail : GoodIn wsX3_format (wsV RX3 125 RX3 yX3_fail wsX3_fail) := goodIn_app (goodIn_of _ (by decide +kernel)) ggX3_format_X3_fail
set_option maxRecDepth 20000 in
theorem ggX3_format_X3_begin : GoodIn wsX3_format wsX3_begin := goodIn_r _ [25, 26, 27, 62, 63, 64, 65, 66, 67, 68, 69, 70, 71, 72, 73, 74, 75, 76, 77, 78, 79, 80, 81, 82, 83, 84, 85] (by decide +kernel) (by decide +kernel)
set_option maxRecDepth 20000 in
theorem gX3_format_X3_begin : GoodIn wsX3_format (wsV RX3 129 RX3 yX3_begin wsX3_begin) := goodIn_app (goodIn_of _ (by decide +kernel)) ggX3_format_X3_begin
set_option maxRecDepth 20000 in
theorem ggX3_format_X3_issueMarks : GoodIn wsX3_format wsX3_issueMarks := goodIn_r _ [31, 32, 27, 13, 33, 34, 35, 16, 36, 37, 38, 62, 63, 64, 65, 66, 67, 68, 69, 70, 71, 72, 73, 74, 75, 76, 77, 78, 79, 80, 81, 82, 83, 84, 85] (by decide +kernel) (by decide +kernel)
set_option maxRecDepth 20000 in
theorem gX3_format_X3_issueMarks : GoodIn wsX3_format (wsV RX3 132 RX3 yX3_issueMarks wsX3_issueMarks) := goodIn_app (goodIn_of _ (by decide +kernel)) ggX3_format_X3_issueMarks
set_option maxRecDepth 20000 in
theorem ggX3_format_X3_holds : GoodIn wsX3_format wsX3_holds := goodIn_r _ [42, 26, 4, 43, 44, 27, 37, 45, 46, 3, 47, 48, 49, 16, 50, 38, 32, 12, 11, 51, 52, 53, 54, 5, 6, 55, 56, 57, 62, 63, 64, 65, 66, 67, 68, 69, 70, 71, 72, 73, 74, 75, 76, 77, 78, 79, 80, 81, 82, 83, 84, 85] (by decide +kernel) (by decide +kernel)
set_option maxRecDepth 20000 in
theorem gX3_format_X3_holds : GoodIn wsX3_format (wsV RX3 136 RX3 yX3_holds wsX3_holds) := goodIn_app (goodIn_of _ (by decide +kernel)) ggX3_format_X3_holds
set_option maxRecDepth 20000 in
theorem ggX3_format_X3_capacity : GoodIn wsX3_format wsX3_capacity := goodIn_r _ [61, 7, 62, 63, 64, 65, 66, 67, 68, 69, 70, 71, 72, 73, 74, 75, 76, 77, 78, 79, 80, 81, 82, 83, 84, 85] (by decide +kernel) (by decide +kernel)
set_option maxRecDepth 20000 in
theorem gX3_format_X3_capacity : GoodIn wsX3_format (wsV RX3 82 RX3 yX3_capacity wsX3_capacity) := goodIn_app (goodIn_of _ (by decide +kernel)) ggX3_format_X3_capacity
theorem dX3_format_0 : decode cX3_format 0 = .ok (.aload_n 0, 1) := by decide +kernel
theorem dX3_format_1 : decode cX3_format 1 = .ok (.iconst 0, 1) := by decide +kernel
theorem dX3_format_2 : decode cX3_format 2 = .ok (.putfield 44, 3) := by decide +kernel
theorem dX3_format_5 : decode cX3_format 5 = .ok (.iload_n 1, 1) := by decide +kernel
theorem dX3_format_6 : decode cX3_format 6 = .ok (.iconst 3, 1) := by decide +kernel
theorem dX3_format_7 : decode cX3_format 7 = .ok (.bipush 6, 2) := by decide +kernel
theorem dX3_format_9 : decode cX3_format 9 = .ok (.invokestatic 70, 3) := by decide +kernel
theorem dX3_format_12 : decode cX3_format 12 = .ok (.ifCond .ne 9, 3) := by decide +kernel
theorem dX3_format_15 : decode cX3_format 15 = .ok (.aload_n 0, 1) := by decide +kernel
theorem dX3_format_16 : decode cX3_format 16 = .ok (.iconst 1, 1) := by decide +kernel
theorem dX3_format_17 : decode cX3_format 17 = .ok (.invokevirtual 125, 3) := by decide +kernel
theorem dX3_format_20 : decode cX3_format 20 = .ok (.ireturn, 1) := by decide +kernel
theorem dX3_format_21 : decode cX3_format 21 = .ok (.aload_n 0, 1) := by decide +kernel
theorem dX3_format_22 : decode cX3_format 22 = .ok (.iconst 1, 1) := by decide +kernel
theorem dX3_format_23 : decode cX3_format 23 = .ok (.putfield 47, 3) := by decide +kernel
theorem dX3_format_26 : decode cX3_format 26 = .ok (.aload_n 0, 1) := by decide +kernel
theorem dX3_format_27 : decode cX3_format 27 = .ok (.iconst 0, 1) := by decide +kernel
theorem dX3_format_28 : decode cX3_format 28 = .ok (.putfield 51, 3) := by decide +kernel
theorem dX3_format_31 : decode cX3_format 31 = .ok (.aload_n 0, 1) := by decide +kernel
theorem dX3_format_32 : decode cX3_format 32 = .ok (.iconst 0, 1) := by decide +kernel
theorem dX3_format_33 : decode cX3_format 33 = .ok (.putfield 112, 3) := by decide +kernel
theorem dX3_format_36 : decode cX3_format 36 = .ok (.aload_n 0, 1) := by decide +kernel
theorem dX3_format_37 : decode cX3_format 37 = .ok (.iconst (-1), 1) := by decide +kernel
theorem dX3_format_38 : decode cX3_format 38 = .ok (.putfield 7, 3) := by decide +kernel
theorem dX3_format_41 : decode cX3_format 41 = .ok (.aload_n 0, 1) := by decide +kernel
theorem dX3_format_42 : decode cX3_format 42 = .ok (.iconst (-1), 1) := by decide +kernel
theorem dX3_format_43 : decode cX3_format 43 = .ok (.putfield 13, 3) := by decide +kernel
theorem dX3_format_46 : decode cX3_format 46 = .ok (.aload_n 0, 1) := by decide +kernel
theorem dX3_format_47 : decode cX3_format 47 = .ok (.iload_n 1, 1) := by decide +kernel
theorem dX3_format_48 : decode cX3_format 48 = .ok (.putfield 57, 3) := by decide +kernel
theorem dX3_format_51 : decode cX3_format 51 = .ok (.aload_n 0, 1) := by decide +kernel
theorem dX3_format_52 : decode cX3_format 52 = .ok (.iconst 0, 1) := by decide +kernel
theorem dX3_format_53 : decode cX3_format 53 = .ok (.putfield 54, 3) := by decide +kernel
theorem dX3_format_56 : decode cX3_format 56 = .ok (.aload_n 0, 1) := by decide +kernel
theorem dX3_format_57 : decode cX3_format 57 = .ok (.iconst 0, 1) := by decide +kernel
theorem dX3_format_58 : decode cX3_format 58 = .ok (.putfield 67, 3) := by decide +kernel
theorem dX3_format_61 : decode cX3_format 61 = .ok (.aload_n 0, 1) := by decide +kernel
theorem dX3_format_62 : decode cX3_format 62 = .ok (.iconst 0, 1) := by decide +kernel
theorem dX3_format_63 : decode cX3_format 63 = .ok (.putfield 64, 3) := by decide +kernel
theorem dX3_format_66 : decode cX3_format 66 = .ok (.iconst 0, 1) := by decide +kernel
theorem dX3_format_67 : decode cX3_format 67 = .ok (.istore_n 2, 1) := by decide +kernel
theorem dX3_format_68 : decode cX3_format 68 = .ok (.iload_n 2, 1) := by decide +kernel
theorem dX3_format_69 : decode cX3_format 69 = .ok (.sipush 1120, 3) := by decide +kernel
theorem dX3_format_72 : decode cX3_format 72 = .ok (.if_icmp .ge 16, 3) := by decide +kernel
theorem dX3_format_75 : decode cX3_format 75 = .ok (.aload_n 0, 1) := by decide +kernel
theorem dX3_format_76 : decode cX3_format 76 = .ok (.getfield 16, 3) := by decide +kernel
theorem dX3_format_79 : decode cX3_format 79 = .ok (.iload_n 2, 1) := by decide +kernel
theorem dX3_format_80 : decode cX3_format 80 = .ok (.iconst 0, 1) := by decide +kernel
theorem dX3_format_81 : decode cX3_format 81 = .ok (.iastore, 1) := by decide +kernel
theorem dX3_format_82 : decode cX3_format 82 = .ok (.iinc 2 1, 3) := by decide +kernel
theorem dX3_format_85 : decode cX3_format 85 = .ok (.goto (-17), 3) := by decide +kernel
theorem dX3_format_88 : decode cX3_format 88 = .ok (.iconst 0, 1) := by decide +kernel
theorem dX3_format_89 : decode cX3_format 89 = .ok (.istore_n 2, 1) := by decide +kernel
theorem dX3_format_90 : decode cX3_format 90 = .ok (.iload_n 2, 1) := by decide +kernel
theorem dX3_format_91 : decode cX3_format 91 = .ok (.bipush 70, 2) := by decide +kernel
theorem dX3_format_93 : decode cX3_format 93 = .ok (.if_icmp .ge 16, 3) := by decide +kernel
theorem dX3_format_96 : decode cX3_format 96 = .ok (.aload_n 0, 1) := by decide +kernel
theorem dX3_format_97 : decode cX3_format 97 = .ok (.getfield 20, 3) := by decide +kernel
theorem dX3_format_100 : decode cX3_format 100 = .ok (.iload_n 2, 1) := by decide +kernel
theorem dX3_format_101 : decode cX3_format 101 = .ok (.iconst 0, 1) := by decide +kernel
theorem dX3_format_102 : decode cX3_format 102 = .ok (.iastore, 1) := by decide +kernel
theorem dX3_format_103 : decode cX3_format 103 = .ok (.iinc 2 1, 3) := by decide +kernel
theorem dX3_format_106 : decode cX3_format 106 = .ok (.goto (-16), 3) := by decide +kernel
theorem dX3_format_109 : decode cX3_format 109 = .ok (.aload_n 0, 1) := by decide +kernel
theorem dX3_format_110 : decode cX3_format 110 = .ok (.invokevirtual 129, 3) := by decide +kernel
theorem dX3_format_113 : decode cX3_format 113 = .ok (.aload_n 0, 1) := by decide +kernel
theorem dX3_format_114 : decode cX3_format 114 = .ok (.iconst 0, 1) := by decide +kernel
theorem dX3_format_115 : decode cX3_format 115 = .ok (.putfield 106, 3) := by decide +kernel
theorem dX3_format_118 : decode cX3_format 118 = .ok (.aload_n 0, 1) := by decide +kernel
theorem dX3_format_119 : decode cX3_format 119 = .ok (.aload_n 0, 1) := by decide +kernel
theorem dX3_format_120 : decode cX3_format 120 = .ok (.getfield 57, 3) := by decide +kernel
theorem dX3_format_123 : decode cX3_format 123 = .ok (.iconst 0, 1) := by decide +kernel
theorem dX3_format_124 : decode cX3_format 124 = .ok (.iconst 0, 1) := by decide +kernel
theorem dX3_format_125 : decode cX3_format 125 = .ok (.iconst 0, 1) := by decide +kernel
theorem dX3_format_126 : decode cX3_format 126 = .ok (.aload_n 0, 1) := by decide +kernel
theorem dX3_format_127 : decode cX3_format 127 = .ok (.getfield 57, 3) := by decide +kernel
theorem dX3_format_130 : decode cX3_format 130 = .ok (.invokevirtual 132, 3) := by decide +kernel
theorem dX3_format_133 : decode cX3_format 133 = .ok (.aload_n 0, 1) := by decide +kernel
theorem dX3_format_134 : decode cX3_format 134 = .ok (.iconst 0, 1) := by decide +kernel
theorem dX3_format_135 : decode cX3_format 135 = .ok (.invokevirtual 136, 3) := by decide +kernel
theorem dX3_format_138 : decode cX3_format 138 = .ok (.pop, 1) := by decide +kernel
theorem dX3_format_139 : decode cX3_format 139 = .ok (.aload_n 0, 1) := by decide +kernel
theorem dX3_format_140 : decode cX3_format 140 = .ok (.iconst 1, 1) := by decide +kernel
theorem dX3_format_141 : decode cX3_format 141 = .ok (.putfield 106, 3) := by decide +kernel
theorem dX3_format_144 : decode cX3_format 144 = .ok (.aload_n 0, 1) := by decide +kernel
theorem dX3_format_145 : decode cX3_format 145 = .ok (.invokevirtual 82, 3) := by decide +kernel
theorem dX3_format_148 : decode cX3_format 148 = .ok (.ireturn, 1) := by decide +kernel
set_option maxRecDepth 20000 in
theorem ggX3_isWord_X3_capacity : GoodIn wsX3_isWord wsX3_capacity := goodIn_r _ [5, 6, 10, 11, 12, 13, 14, 15, 16, 17, 18, 19, 20, 21, 22, 23, 24, 25, 26, 27, 28, 29, 30, 31, 32, 33] (by decide +kernel) (by decide +kernel)
set_option maxRecDepth 20000 in
theorem gX3_isWord_X3_capacity : GoodIn wsX3_isWord (wsV RX3 82 RX3 yX3_capacity wsX3_capacity) := goodIn_app (goodIn_of _ (by decide +kernel)) ggX3_isWord_X3_capacity
set_option maxRecDepth 20000 in
theorem ggX3_isWord_X3_within : GoodIn wsX3_isWord wsX3_within := goodIn_r _ [9] (by decide +kernel) (by decide +kernel)
set_option maxRecDepth 20000 in
theorem gX3_isWord_X3_within : GoodIn wsX3_isWord (va_wsS RX3 70 yX3_within wsX3_within) := goodIn_app (goodIn_of _ (by decide +kernel)) ggX3_isWord_X3_within
theorem dX3_isWord_0 : decode cX3_isWord 0 = .ok (.iload_n 1, 1) := by decide +kernel
theorem dX3_isWord_1 : decode cX3_isWord 1 = .ok (.iconst 0, 1) := by decide +kernel
theorem dX3_isWord_2 : decode cX3_isWord 2 = .ok (.aload_n 0, 1) := by decide +kernel
theorem dX3_isWord_3 : decode cX3_isWord 3 = .ok (.invokevirtual 82, 3) := by decide +kernel
theorem dX3_isWord_6 : decode cX3_isWord 6 = .ok (.iconst 1, 1) := by decide +kernel
theorem dX3_isWord_7 : decode cX3_isWord 7 = .ok (.isub, 1) := by decide +kernel
theorem dX3_isWord_8 : decode cX3_isWord 8 = .ok (.invokestatic 70, 3) := by decide +kernel
theorem dX3_isWord_11 : decode cX3_isWord 11 = .ok (.ifCond .eq 16, 3) := by decide +kernel
theorem dX3_isWord_14 : decode cX3_isWord 14 = .ok (.iload_n 2, 1) := by decide +kernel
theorem dX3_isWord_15 : decode cX3_isWord 15 = .ok (.iconst 0, 1) := by decide +kernel
theorem dX3_isWord_16 : decode cX3_isWord 16 = .ok (.iconst 3, 1) := by decide +kernel
theorem dX3_isWord_17 : decode cX3_isWord 17 = .ok (.invokestatic 70, 3) := by decide +kernel
theorem dX3_isWord_20 : decode cX3_isWord 20 = .ok (.ifCond .eq 7, 3) := by decide +kernel
theorem dX3_isWord_23 : decode cX3_isWord 23 = .ok (.iconst 1, 1) := by decide +kernel
theorem dX3_isWord_24 : decode cX3_isWord 24 = .ok (.goto 4, 3) := by decide +kernel
theorem dX3_isWord_27 : decode cX3_isWord 27 = .ok (.iconst 0, 1) := by decide +kernel
theorem dX3_isWord_28 : decode cX3_isWord 28 = .ok (.ireturn, 1) := by decide +kernel
set_option maxRecDepth 20000 in
theorem ggX3_write_X3_works : GoodIn wsX3_write wsX3_works := goodIn_r _ [8, 9, 10, 11, 89, 90, 91, 92, 93, 94, 95, 96, 97, 98, 99, 100, 101, 102, 103, 104, 105, 106, 107, 108, 109, 110, 111, 112] (by decide +kernel) (by decide +kernel)
set_option maxRecDepth 20000 in
theorem gX3_write_X3_works : GoodIn wsX3_write (wsV RX3 140 RX3 yX3_works wsX3_works) := goodIn_app (goodIn_of _ (by decide +kernel)) ggX3_write_X3_works
set_option maxRecDepth 20000 in
theorem ggX3_write_X3_isWord : GoodIn wsX3_write wsX3_isWord := goodIn_r _ [15, 16, 17, 18, 7, 19, 1, 20, 21, 22, 89, 90, 91, 92, 93, 94, 95, 96, 97, 98, 99, 100, 101, 102, 103, 104, 105, 106, 107, 108, 109, 110, 111, 112] (by decide +kernel) (by decide +kernel)
set_option maxRecDepth 20000 in
theorem gX3_write_X3_isWord : GoodIn wsX3_write (wsV RX3 144 RX3 yX3_isWord wsX3_isWord) := goodIn_app (goodIn_of _ (by decide +kernel)) ggX3_write_X3_isWord
set_option maxRecDepth 20000 in
theorem ggX3_write_X3_fail : GoodIn wsX3_write wsX3_fail := goodIn_r _ [26, 11, 89, 90, 91, 92, 93, 94, 95, 96, 97, 98, 99, 100, 101, 102, 103, 104, 105, 106, 107, 108, 109, 110, 111, 112] (by decide +kernel) (by decide +kernel)
set_option maxRecDepth 20000 in
theorem gX3_write_X3_fail : GoodIn wsX3_write (wsV RX3 125 RX3 yX3_fail wsX3_fail) := goodIn_app (goodIn_of _ (by decide +kernel)) ggX3_write_X3_fail
set_option maxRecDepth 20000 in
theorem ggX3_write_X3_isInWindow : GoodIn wsX3_write wsX3_isInWindow := goodIn_r _ [30, 31, 32, 1, 20, 21, 7, 22, 89, 90, 91, 92, 93, 94, 95, 96, 97, 98, 99, 100, 101, 102, 103, 104, 105, 106, 107, 108, 109, 110, 111, 112] (by decide +kernel) (by decide +kernel)
set_option maxRecDepth 20000 in
theorem gX3_write_X3_isInWindow : GoodIn wsX3_write (wsV RX3 86 RX3 yX3_isInWindow wsX3_isInWindow) := goodIn_app (goodIn_of _ (by decide +kernel)) ggX3_write_X3_isInWindow
set_option maxRecDepth 20000 in
theorem ggX3_write_X3_begin : GoodIn wsX3_write wsX3_begin := goodIn_r _ [36, 37, 38, 89, 90, 91, 92, 93, 94, 95, 96, 97, 98, 99, 100, 101, 102, 103, 104, 105, 106, 107, 108, 109, 110, 111, 112] (by decide +kernel) (by decide +kernel)
set_option maxRecDepth 20000 in
theorem gX3_write_X3_begin : GoodIn wsX3_write (wsV RX3 129 RX3 yX3_begin wsX3_begin) := goodIn_app (goodIn_of _ (by decide +kernel)) ggX3_write_X3_begin
set_option maxRecDepth 20000 in
theorem ggX3_write_X3_isNew : GoodIn wsX3_write wsX3_isNew := goodIn_r _ [42, 43, 32, 1, 89, 90, 91, 92, 93, 94, 95, 96, 97, 98, 99, 100, 101, 102, 103, 104, 105, 106, 107, 108, 109, 110, 111, 112] (by decide +kernel) (by decide +kernel)
set_option maxRecDepth 20000 in
theorem gX3_write_X3_isNew : GoodIn wsX3_write (wsV RX3 89 RX3 yX3_isNew wsX3_isNew) := goodIn_app (goodIn_of _ (by decide +kernel)) ggX3_write_X3_isNew
set_option maxRecDepth 20000 in
theorem ggX3_write_X3_dataDisk : GoodIn wsX3_write wsX3_dataDisk := goodIn_r _ [46, 47, 48, 7, 49] (by decide +kernel) (by decide +kernel)
set_option maxRecDepth 20000 in
theorem gX3_write_X3_dataDisk : GoodIn wsX3_write (va_wsS RX3 92 yX3_dataDisk wsX3_dataDisk) := goodIn_app (goodIn_of _ (by decide +kernel)) ggX3_write_X3_dataDisk
set_option maxRecDepth 20000 in
theorem ggX3_write_X3_wordOf : GoodIn wsX3_write wsX3_wordOf := goodIn_r _ [53, 54, 55, 56, 57, 7, 58, 59, 60, 61, 62, 63, 89, 90, 91, 92, 93, 94, 95, 96, 97, 98, 99, 100, 101, 102, 103, 104, 105, 106, 107, 108, 109, 110, 111, 112] (by decide +kernel) (by decide +kernel)
set_option maxRecDepth 20000 in
theorem gX3_write_X3_wordOf : GoodIn wsX3_write (wsV RX3 95 RX3 yX3_wordOf wsX3_wordOf) := goodIn_app (goodIn_of _ (by decide +kernel)) ggX3_write_X3_wordOf
set_option maxRecDepth 20000 in
theorem ggX3_write_X3_issueBlock : GoodIn wsX3_write wsX3_issueBlock := goodIn_r _ [67, 68, 38, 3, 69, 70, 71, 7, 72, 73, 74, 89, 90, 91, 92, 93, 94, 95, 96, 97, 98, 99, 100, 101, 102, 103, 104, 105, 106, 107, 108, 109, 110, 111, 112] (by decide +kernel) (by decide +kernel)
set_option maxRecDepth 20000 in
theorem gX3_write_X3_issueBlock : GoodIn wsX3_write (wsV RX3 148 RX3 yX3_issueBlock wsX3_issueBlock) := goodIn_app (goodIn_of _ (by decide +kernel)) ggX3_write_X3_issueBlock
set_option maxRecDepth 20000 in
theorem ggX3_write_X3_parityDisk : GoodIn wsX3_write wsX3_parityDisk := goodIn_r _ [49] (by decide +kernel) (by decide +kernel)
set_option maxRecDepth 20000 in
theorem gX3_write_X3_parityDisk : GoodIn wsX3_write (va_wsS RX3 60 yX3_parityDisk wsX3_parityDisk) := goodIn_app (goodIn_of _ (by decide +kernel)) ggX3_write_X3_parityDisk
set_option maxRecDepth 20000 in
theorem ggX3_write_X3_holds : GoodIn wsX3_write wsX3_holds := goodIn_r _ [78, 37, 79, 80, 81, 38, 73, 82, 83, 10, 84, 85, 86, 7, 87, 74, 68, 88, 54, 55, 56, 57, 58, 59, 60, 61, 62, 63, 89, 90, 91, 92, 93, 94, 95, 96, 97, 98, 99, 100, 101, 102, 103, 104, 105, 106, 107, 108, 109, 110, 111, 112] (by decide +kernel) (by decide +kernel)
set_option maxRecDepth 20000 in
theorem gX3_write_X3_holds : GoodIn wsX3_write (wsV RX3 136 RX3 yX3_holds wsX3_holds) := goodIn_app (goodIn_of _ (by decide +kernel)) ggX3_write_X3_holds
theorem dX3_write_0 : decode cX3_write 0 = .ok (.aload_n 0, 1) := by decide +kernel
theorem dX3_write_1 : decode cX3_write 1 = .ok (.invokevirtual 140, 3) := by decide +kernel
theorem dX3_write_4 : decode cX3_write 4 = .ok (.ifCond .ne 5, 3) := by decide +kernel
theorem dX3_write_7 : decode cX3_write 7 = .ok (.iconst 0, 1) := by decide +kernel
theorem dX3_write_8 : decode cX3_write 8 = .ok (.ireturn, 1) := by decide +kernel
theorem dX3_write_9 : decode cX3_write 9 = .ok (.aload_n 0, 1) := by decide +kernel
theorem dX3_write_10 : decode cX3_write 10 = .ok (.iload_n 1, 1) := by decide +kernel
theorem dX3_write_11 : decode cX3_write 11 = .ok (.iload_n 2, 1) := by decide +kernel
theorem dX3_write_12 : decode cX3_write 12 = .ok (.invokevirtual 144, 3) := by decide +kernel
theorem dX3_write_15 : decode cX3_write 15 = .ok (.ifCond .ne 17, 3) := by decide +kernel
theorem dX3_write_18 : decode cX3_write 18 = .ok (.aload_n 0, 1) := by decide +kernel
theorem dX3_write_19 : decode cX3_write 19 = .ok (.iconst 2, 1) := by decide +kernel
theorem dX3_write_20 : decode cX3_write 20 = .ok (.invokevirtual 125, 3) := by decide +kernel
theorem dX3_write_23 : decode cX3_write 23 = .ok (.ifCond .le 7, 3) := by decide +kernel
theorem dX3_write_26 : decode cX3_write 26 = .ok (.iconst 1, 1) := by decide +kernel
theorem dX3_write_27 : decode cX3_write 27 = .ok (.goto 4, 3) := by decide +kernel
theorem dX3_write_30 : decode cX3_write 30 = .ok (.iconst 0, 1) := by decide +kernel
theorem dX3_write_31 : decode cX3_write 31 = .ok (.ireturn, 1) := by decide +kernel
theorem dX3_write_32 : decode cX3_write 32 = .ok (.aload_n 0, 1) := by decide +kernel
theorem dX3_write_33 : decode cX3_write 33 = .ok (.iload_n 1, 1) := by decide +kernel
theorem dX3_write_34 : decode cX3_write 34 = .ok (.invokevirtual 86, 3) := by decide +kernel
theorem dX3_write_37 : decode cX3_write 37 = .ok (.ifCond .eq 5, 3) := by decide +kernel
theorem dX3_write_40 : decode cX3_write 40 = .ok (.iconst 0, 1) := by decide +kernel
theorem dX3_write_41 : decode cX3_write 41 = .ok (.ireturn, 1) := by decide +kernel
theorem dX3_write_42 : decode cX3_write 42 = .ok (.aload_n 0, 1) := by decide +kernel
theorem dX3_write_43 : decode cX3_write 43 = .ok (.invokevirtual 129, 3) := by decide +kernel
theorem dX3_write_46 : decode cX3_write 46 = .ok (.aload_n 0, 1) := by decide +kernel
theorem dX3_write_47 : decode cX3_write 47 = .ok (.iload_n 1, 1) := by decide +kernel
theorem dX3_write_48 : decode cX3_write 48 = .ok (.invokevirtual 89, 3) := by decide +kernel
theorem dX3_write_51 : decode cX3_write 51 = .ok (.ifCond .eq 12, 3) := by decide +kernel
theorem dX3_write_54 : decode cX3_write 54 = .ok (.aload_n 0, 1) := by decide +kernel
theorem dX3_write_55 : decode cX3_write 55 = .ok (.getfield 57, 3) := by decide +kernel
theorem dX3_write_58 : decode cX3_write 58 = .ok (.iconst 1, 1) := by decide +kernel
theorem dX3_write_59 : decode cX3_write 59 = .ok (.iadd, 1) := by decide +kernel
theorem dX3_write_60 : decode cX3_write 60 = .ok (.goto 7, 3) := by decide +kernel
theorem dX3_write_63 : decode cX3_write 63 = .ok (.aload_n 0, 1) := by decide +kernel
theorem dX3_write_64 : decode cX3_write 64 = .ok (.getfield 57, 3) := by decide +kernel
theorem dX3_write_67 : decode cX3_write 67 = .ok (.istore 4, 2) := by decide +kernel
theorem dX3_write_69 : decode cX3_write 69 = .ok (.iload_n 1, 1) := by decide +kernel
theorem dX3_write_70 : decode cX3_write 70 = .ok (.iload 4, 2) := by decide +kernel
theorem dX3_write_72 : decode cX3_write 72 = .ok (.iconst 1, 1) := by decide +kernel
theorem dX3_write_73 : decode cX3_write 73 = .ok (.isub, 1) := by decide +kernel
theorem dX3_write_74 : decode cX3_write 74 = .ok (.idiv, 1) := by decide +kernel
theorem dX3_write_75 : decode cX3_write 75 = .ok (.istore 5, 2) := by decide +kernel
theorem dX3_write_77 : decode cX3_write 77 = .ok (.iload_n 1, 1) := by decide +kernel
theorem dX3_write_78 : decode cX3_write 78 = .ok (.iload 4, 2) := by decide +kernel
theorem dX3_write_80 : decode cX3_write 80 = .ok (.iconst 1, 1) := by decide +kernel
theorem dX3_write_81 : decode cX3_write 81 = .ok (.isub, 1) := by decide +kernel
theorem dX3_write_82 : decode cX3_write 82 = .ok (.irem, 1) := by decide +kernel
theorem dX3_write_83 : decode cX3_write 83 = .ok (.istore 6, 2) := by decide +kernel
theorem dX3_write_85 : decode cX3_write 85 = .ok (.iconst 0, 1) := by decide +kernel
theorem dX3_write_86 : decode cX3_write 86 = .ok (.istore 7, 2) := by decide +kernel
theorem dX3_write_88 : decode cX3_write 88 = .ok (.iload 7, 2) := by decide +kernel
theorem dX3_write_90 : decode cX3_write 90 = .ok (.iconst 4, 1) := by decide +kernel
theorem dX3_write_91 : decode cX3_write 91 = .ok (.if_icmp .ge 120, 3) := by decide +kernel
theorem dX3_write_94 : decode cX3_write 94 = .ok (.aload_n 0, 1) := by decide +kernel
theorem dX3_write_95 : decode cX3_write 95 = .ok (.getfield 41, 3) := by decide +kernel
theorem dX3_write_98 : decode cX3_write 98 = .ok (.iload 7, 2) := by decide +kernel
theorem dX3_write_100 : decode cX3_write 100 = .ok (.iconst 0, 1) := by decide +kernel
theorem dX3_write_101 : decode cX3_write 101 = .ok (.iastore, 1) := by decide +kernel
theorem dX3_write_102 : decode cX3_write 102 = .ok (.iconst 0, 1) := by decide +kernel
theorem dX3_write_103 : decode cX3_write 103 = .ok (.istore 8, 2) := by decide +kernel
theorem dX3_write_105 : decode cX3_write 105 = .ok (.iload 8, 2) := by decide +kernel
theorem dX3_write_107 : decode cX3_write 107 = .ok (.iload 4, 2) := by decide +kernel
theorem dX3_write_109 : decode cX3_write 109 = .ok (.iconst 1, 1) := by decide +kernel
theorem dX3_write_110 : decode cX3_write 110 = .ok (.isub, 1) := by decide +kernel
theorem dX3_write_111 : decode cX3_write 111 = .ok (.if_icmp .ge 94, 3) := by decide +kernel
theorem dX3_write_114 : decode cX3_write 114 = .ok (.aload_n 0, 1) := by decide +kernel
theorem dX3_write_115 : decode cX3_write 115 = .ok (.iload 4, 2) := by decide +kernel
theorem dX3_write_117 : decode cX3_write 117 = .ok (.iload 4, 2) := by decide +kernel
theorem dX3_write_119 : decode cX3_write 119 = .ok (.iload 5, 2) := by decide +kernel
theorem dX3_write_121 : decode cX3_write 121 = .ok (.iload 8, 2) := by decide +kernel
theorem dX3_write_123 : decode cX3_write 123 = .ok (.invokestatic 92, 3) := by decide +kernel
theorem dX3_write_126 : decode cX3_write 126 = .ok (.iload 5, 2) := by decide +kernel
theorem dX3_write_128 : decode cX3_write 128 = .ok (.iload 7, 2) := by decide +kernel
theorem dX3_write_130 : decode cX3_write 130 = .ok (.invokevirtual 95, 3) := by decide +kernel
theorem dX3_write_133 : decode cX3_write 133 = .ok (.istore 9, 2) := by decide +kernel
theorem dX3_write_135 : decode cX3_write 135 = .ok (.iload 8, 2) := by decide +kernel
theorem dX3_write_137 : decode cX3_write 137 = .ok (.iload 6, 2) := by decide +kernel
theorem dX3_write_139 : decode cX3_write 139 = .ok (.if_icmp .ne 13, 3) := by decide +kernel
theorem dX3_write_142 : decode cX3_write 142 = .ok (.iload 7, 2) := by decide +kernel
theorem dX3_write_144 : decode cX3_write 144 = .ok (.iload_n 2, 1) := by decide +kernel
theorem dX3_write_145 : decode cX3_write 145 = .ok (.if_icmp .ne 7, 3) := by decide +kernel
theorem dX3_write_148 : decode cX3_write 148 = .ok (.iload_n 3, 1) := by decide +kernel
theorem dX3_write_149 : decode cX3_write 149 = .ok (.goto 5, 3) := by decide +kernel
theorem dX3_write_152 : decode cX3_write 152 = .ok (.iload 9, 2) := by decide +kernel
theorem dX3_write_154 : decode cX3_write 154 = .ok (.istore 9, 2) := by decide +kernel
theorem dX3_write_156 : decode cX3_write 156 = .ok (.aload_n 0, 1) := by decide +kernel
theorem dX3_write_157 : decode cX3_write 157 = .ok (.getfield 41, 3) := by decide +kernel
theorem dX3_write_160 : decode cX3_write 160 = .ok (.iload 7, 2) := by decide +kernel
theorem dX3_write_162 : decode cX3_write 162 = .ok (.aload_n 0, 1) := by decide +kernel
theorem dX3_write_163 : decode cX3_write 163 = .ok (.getfield 41, 3) := by decide +kernel
theorem dX3_write_166 : decode cX3_write 166 = .ok (.iload 7, 2) := by decide +kernel
theorem dX3_write_168 : decode cX3_write 168 = .ok (.iaload, 1) := by decide +kernel
theorem dX3_write_169 : decode cX3_write 169 = .ok (.iload 9, 2) := by decide +kernel
theorem dX3_write_171 : decode cX3_write 171 = .ok (.ixor, 1) := by decide +kernel
theorem dX3_write_172 : decode cX3_write 172 = .ok (.iastore, 1) := by decide +kernel
theorem dX3_write_173 : decode cX3_write 173 = .ok (.aload_n 0, 1) := by decide +kernel
theorem dX3_write_174 : decode cX3_write 174 = .ok (.getfield 38, 3) := by decide +kernel
theorem dX3_write_177 : decode cX3_write 177 = .ok (.iload 7, 2) := by decide +kernel
theorem dX3_write_179 : decode cX3_write 179 = .ok (.iload 8, 2) := by decide +kernel
theorem dX3_write_181 : decode cX3_write 181 = .ok (.iload 6, 2) := by decide +kernel
theorem dX3_write_183 : decode cX3_write 183 = .ok (.if_icmp .ne 8, 3) := by decide +kernel
theorem dX3_write_186 : decode cX3_write 186 = .ok (.iload 9, 2) := by decide +kernel
theorem dX3_write_188 : decode cX3_write 188 = .ok (.goto 10, 3) := by decide +kernel
theorem dX3_write_191 : decode cX3_write 191 = .ok (.aload_n 0, 1) := by decide +kernel
theorem dX3_write_192 : decode cX3_write 192 = .ok (.getfield 38, 3) := by decide +kernel
theorem dX3_write_195 : decode cX3_write 195 = .ok (.iload 7, 2) := by decide +kernel
theorem dX3_write_197 : decode cX3_write 197 = .ok (.iaload, 1) := by decide +kernel
theorem dX3_write_198 : decode cX3_write 198 = .ok (.iastore, 1) := by decide +kernel
theorem dX3_write_199 : decode cX3_write 199 = .ok (.iinc 8 1, 3) := by decide +kernel
theorem dX3_write_202 : decode cX3_write 202 = .ok (.goto (-97), 3) := by decide +kernel
theorem dX3_write_205 : decode cX3_write 205 = .ok (.iinc 7 1, 3) := by decide +kernel
theorem dX3_write_208 : decode cX3_write 208 = .ok (.goto (-120), 3) := by decide +kernel
theorem dX3_write_211 : decode cX3_write 211 = .ok (.aload_n 0, 1) := by decide +kernel
theorem dX3_write_212 : decode cX3_write 212 = .ok (.iload 4, 2) := by decide +kernel
theorem dX3_write_214 : decode cX3_write 214 = .ok (.iload 5, 2) := by decide +kernel
theorem dX3_write_216 : decode cX3_write 216 = .ok (.iload 6, 2) := by decide +kernel
theorem dX3_write_218 : decode cX3_write 218 = .ok (.invokestatic 92, 3) := by decide +kernel
theorem dX3_write_221 : decode cX3_write 221 = .ok (.iload 5, 2) := by decide +kernel
theorem dX3_write_223 : decode cX3_write 223 = .ok (.invokevirtual 148, 3) := by decide +kernel
theorem dX3_write_226 : decode cX3_write 226 = .ok (.iconst 0, 1) := by decide +kernel
theorem dX3_write_227 : decode cX3_write 227 = .ok (.istore 7, 2) := by decide +kernel
theorem dX3_write_229 : decode cX3_write 229 = .ok (.iload 7, 2) := by decide +kernel
theorem dX3_write_231 : decode cX3_write 231 = .ok (.iconst 4, 1) := by decide +kernel
theorem dX3_write_232 : decode cX3_write 232 = .ok (.if_icmp .ge 23, 3) := by decide +kernel
theorem dX3_write_235 : decode cX3_write 235 = .ok (.aload_n 0, 1) := by decide +kernel
theorem dX3_write_236 : decode cX3_write 236 = .ok (.getfield 38, 3) := by decide +kernel
theorem dX3_write_239 : decode cX3_write 239 = .ok (.iload 7, 2) := by decide +kernel
theorem dX3_write_241 : decode cX3_write 241 = .ok (.aload_n 0, 1) := by decide +kernel
theorem dX3_write_242 : decode cX3_write 242 = .ok (.getfield 41, 3) := by decide +kernel
theorem dX3_write_245 : decode cX3_write 245 = .ok (.iload 7, 2) := by decide +kernel
theorem dX3_write_247 : decode cX3_write 247 = .ok (.iaload, 1) := by decide +kernel
theorem dX3_write_248 : decode cX3_write 248 = .ok (.iastore, 1) := by decide +kernel
theorem dX3_write_249 : decode cX3_write 249 = .ok (.iinc 7 1, 3) := by decide +kernel
theorem dX3_write_252 : decode cX3_write 252 = .ok (.goto (-23), 3) := by decide +kernel
theorem dX3_write_255 : decode cX3_write 255 = .ok (.aload_n 0, 1) := by decide +kernel
theorem dX3_write_256 : decode cX3_write 256 = .ok (.iload 4, 2) := by decide +kernel
theorem dX3_write_258 : decode cX3_write 258 = .ok (.iload 5, 2) := by decide +kernel
theorem dX3_write_260 : decode cX3_write 260 = .ok (.invokestatic 60, 3) := by decide +kernel
theorem dX3_write_263 : decode cX3_write 263 = .ok (.iload 5, 2) := by decide +kernel
theorem dX3_write_265 : decode cX3_write 265 = .ok (.invokevirtual 148, 3) := by decide +kernel
theorem dX3_write_268 : decode cX3_write 268 = .ok (.aload_n 0, 1) := by decide +kernel
theorem dX3_write_269 : decode cX3_write 269 = .ok (.iconst 1, 1) := by decide +kernel
theorem dX3_write_270 : decode cX3_write 270 = .ok (.invokevirtual 136, 3) := by decide +kernel
theorem dX3_write_273 : decode cX3_write 273 = .ok (.ifCond .ne 11, 3) := by decide +kernel
theorem dX3_write_276 : decode cX3_write 276 = .ok (.aload_n 0, 1) := by decide +kernel
theorem dX3_write_277 : decode cX3_write 277 = .ok (.iconst 3, 1) := by decide +kernel
theorem dX3_write_278 : decode cX3_write 278 = .ok (.invokevirtual 125, 3) := by decide +kernel
theorem dX3_write_281 : decode cX3_write 281 = .ok (.ifCond .le 7, 3) := by decide +kernel
theorem dX3_write_284 : decode cX3_write 284 = .ok (.iconst 1, 1) := by decide +kernel
theorem dX3_write_285 : decode cX3_write 285 = .ok (.goto 4, 3) := by decide +kernel
theorem dX3_write_288 : decode cX3_write 288 = .ok (.iconst 0, 1) := by decide +kernel
theorem dX3_write_289 : decode cX3_write 289 = .ok (.ireturn, 1) := by decide +kernel
set_option maxRecDepth 20000 in
theorem ggX3_read_X3_works : GoodIn wsX3_read wsX3_works := goodIn_r _ [5, 6, 7, 8, 60, 61, 62, 63, 64, 65, 66, 67, 68, 69, 70, 71, 72, 73, 74, 75, 76, 77, 78, 79, 80, 81, 82, 83] (by decide +kernel) (by decide +kernel)
set_option maxRecDepth 20000 in
theorem gX3_read_X3_works : GoodIn wsX3_read (wsV RX3 140 RX3 yX3_works wsX3_works) := goodIn_app (goodIn_of _ (by decide +kernel)) ggX3_read_X3_works
set_option maxRecDepth 20000 in
theorem ggX3_read_X3_isWord : GoodIn wsX3_read wsX3_isWord := goodIn_r _ [12, 13, 14, 15, 4, 16, 17, 18, 19, 20, 60, 61, 62, 63, 64, 65, 66, 67, 68, 69, 70, 71, 72, 73, 74, 75, 76, 77, 78, 79, 80, 81, 82, 83] (by decide +kernel) (by decide +kernel)
set_option maxRecDepth 20000 in
theorem gX3_read_X3_isWord : GoodIn wsX3_read (wsV RX3 144 RX3 yX3_isWord wsX3_isWord) := goodIn_app (goodIn_of _ (by decide +kernel)) ggX3_read_X3_isWord
set_option maxRecDepth 20000 in
theorem ggX3_read_X3_wordAt : GoodIn wsX3_read wsX3_wordAt := goodIn_r _ [24, 25, 17, 26, 13, 14, 15, 4, 16, 27, 28, 29, 30, 31, 18, 19, 20, 32, 33, 34, 35, 36, 37, 38, 39, 40, 41, 42, 43, 44, 45, 46, 47, 48, 49, 50, 51, 52, 53, 54, 55, 60, 61, 62, 63, 64, 65, 66, 67, 68, 69, 70, 71, 72, 73, 74, 75, 76, 77, 78, 79, 80, 81, 82, 83] (by decide +kernel) (by decide +kernel)
set_option maxRecDepth 20000 in
theorem gX3_read_X3_wordAt : GoodIn wsX3_read (wsV RX3 151 RX3 yX3_wordAt wsX3_wordAt) := goodIn_app (goodIn_of _ (by decide +kernel)) ggX3_read_X3_wordAt
set_option maxRecDepth 20000 in
theorem ggX3_read_X3_fail : GoodIn wsX3_read wsX3_fail := goodIn_r _ [59, 8, 60, 61, 62, 63, 64, 65, 66, 67, 68, 69, 70, 71, 72, 73, 74, 75, 76, 77, 78, 79, 80, 81, 82, 83] (by decide +kernel) (by decide +kernel)
set_option maxRecDepth 20000 in
theorem gX3_read_X3_fail : GoodIn wsX3_read (wsV RX3 125 RX3 yX3_fail wsX3_fail) := goodIn_app (goodIn_of _ (by decide +kernel)) ggX3_read_X3_fail
theorem dX3_read_0 : decode cX3_read 0 = .ok (.aload_n 0, 1) := by decide +kernel
theorem dX3_read_1 : decode cX3_read 1 = .ok (.invokevirtual 140, 3) := by decide +kernel
theorem dX3_read_4 : decode cX3_read 4 = .ok (.ifCond .ne 5, 3) := by decide +kernel
theorem dX3_read_7 : decode cX3_read 7 = .ok (.iconst 0, 1) := by decide +kernel
theorem dX3_read_8 : decode cX3_read 8 = .ok (.ireturn, 1) := by decide +kernel
theorem dX3_read_9 : decode cX3_read 9 = .ok (.aload_n 0, 1) := by decide +kernel
theorem dX3_read_10 : decode cX3_read 10 = .ok (.iload_n 1, 1) := by decide +kernel
theorem dX3_read_11 : decode cX3_read 11 = .ok (.iload_n 2, 1) := by decide +kernel
theorem dX3_read_12 : decode cX3_read 12 = .ok (.invokevirtual 144, 3) := by decide +kernel
theorem dX3_read_15 : decode cX3_read 15 = .ok (.ifCond .eq 12, 3) := by decide +kernel
theorem dX3_read_18 : decode cX3_read 18 = .ok (.aload_n 0, 1) := by decide +kernel
theorem dX3_read_19 : decode cX3_read 19 = .ok (.iload_n 1, 1) := by decide +kernel
theorem dX3_read_20 : decode cX3_read 20 = .ok (.iload_n 2, 1) := by decide +kernel
theorem dX3_read_21 : decode cX3_read 21 = .ok (.invokevirtual 151, 3) := by decide +kernel
theorem dX3_read_24 : decode cX3_read 24 = .ok (.goto 8, 3) := by decide +kernel
theorem dX3_read_27 : decode cX3_read 27 = .ok (.aload_n 0, 1) := by decide +kernel
theorem dX3_read_28 : decode cX3_read 28 = .ok (.iconst 2, 1) := by decide +kernel
theorem dX3_read_29 : decode cX3_read 29 = .ok (.invokevirtual 125, 3) := by decide +kernel
theorem dX3_read_32 : decode cX3_read 32 = .ok (.ireturn, 1) := by decide +kernel
set_option maxRecDepth 20000 in
theorem ggX3_widen_X3_works : GoodIn wsX3_widen wsX3_works := goodIn_r _ [11, 12, 13, 14, 62, 63, 64, 65, 66, 67, 68, 69, 70, 71, 72, 73, 74, 75, 76, 77, 78, 79, 80, 81, 82, 83, 84, 85] (by decide +kernel) (by decide +kernel)
set_option maxRecDepth 20000 in
theorem gX3_widen_X3_works : GoodIn wsX3_widen (wsV RX3 140 RX3 yX3_works wsX3_works) := goodIn_app (goodIn_of _ (by decide +kernel)) ggX3_widen_X3_works
set_option maxRecDepth 20000 in
theorem ggX3_widen_X3_hasOut : GoodIn wsX3_widen wsX3_hasOut := goodIn_r _ [18, 19, 20, 62, 63, 64, 65, 66, 67, 68, 69, 70, 71, 72, 73, 74, 75, 76, 77, 78, 79, 80, 81, 82, 83, 84, 85] (by decide +kernel) (by decide +kernel)
set_option maxRecDepth 20000 in
theorem gX3_widen_X3_hasOut : GoodIn wsX3_widen (wsV RX3 154 RX3 yX3_hasOut wsX3_hasOut) := goodIn_app (goodIn_of _ (by decide +kernel)) ggX3_widen_X3_hasOut
set_option maxRecDepth 20000 in
theorem ggX3_widen_X3_fail : GoodIn wsX3_widen wsX3_fail := goodIn_r _ [24, 14, 62, 63, 64, 65, 66, 67, 68, 69, 70, 71, 72, 73, 74, 75, 76, 77, 78, 79, 80, 81, 82, 83, 84, 85] (by decide +kernel) (by decide +kernel)
set_option maxRecDepth 20000 in
theorem gX3_widen_X3_fail : GoodIn wsX3_widen (wsV RX3 125 RX3 yX3_fail wsX3_fail) := goodIn_app (goodIn_of _ (by decide +kernel)) ggX3_widen_X3_fail
set_option maxRecDepth 20000 in
theorem ggX3_widen_X3_begin : GoodIn wsX3_widen wsX3_begin := goodIn_r _ [28, 29, 30, 62, 63, 64, 65, 66, 67, 68, 69, 70, 71, 72, 73, 74, 75, 76, 77, 78, 79, 80, 81, 82, 83, 84, 85] (by decide +kernel) (by decide +kernel)
set_option maxRecDepth 20000 in
theorem gX3_widen_X3_begin : GoodIn wsX3_widen (wsV RX3 129 RX3 yX3_begin wsX3_begin) := goodIn_app (goodIn_of _ (by decide +kernel)) ggX3_widen_X3_begin
set_option maxRecDepth 20000 in
theorem ggX3_widen_X3_issueMarks : GoodIn wsX3_widen wsX3_issueMarks := goodIn_r _ [34, 35, 30, 5, 36, 37, 38, 10, 39, 40, 41, 62, 63, 64, 65, 66, 67, 68, 69, 70, 71, 72, 73, 74, 75, 76, 77, 78, 79, 80, 81, 82, 83, 84, 85] (by decide +kernel) (by decide +kernel)
set_option maxRecDepth 20000 in
theorem gX3_widen_X3_issueMarks : GoodIn wsX3_widen (wsV RX3 132 RX3 yX3_issueMarks wsX3_issueMarks) := goodIn_app (goodIn_of _ (by decide +kernel)) ggX3_widen_X3_issueMarks
set_option maxRecDepth 20000 in
theorem ggX3_widen_X3_holds : GoodIn wsX3_widen wsX3_holds := goodIn_r _ [45, 29, 46, 47, 48, 30, 40, 49, 50, 13, 51, 52, 53, 10, 54, 41, 35, 4, 3, 55, 56, 57, 58, 19, 20, 59, 60, 61, 62, 63, 64, 65, 66, 67, 68, 69, 70, 71, 72, 73, 74, 75, 76, 77, 78, 79, 80, 81, 82, 83, 84, 85] (by decide +kernel) (by decide +kernel)
set_option maxRecDepth 20000 in
theorem gX3_widen_X3_holds : GoodIn wsX3_widen (wsV RX3 136 RX3 yX3_holds wsX3_holds) := goodIn_app (goodIn_of _ (by decide +kernel)) ggX3_widen_X3_holds
theorem dX3_widen_0 : decode cX3_widen 0 = .ok (.aload_n 0, 1) := by decide +kernel
theorem dX3_widen_1 : decode cX3_widen 1 = .ok (.invokevirtual 140, 3) := by decide +kernel
theorem dX3_widen_4 : decode cX3_widen 4 = .ok (.ifCond .ne 5, 3) := by decide +kernel
theorem dX3_widen_7 : decode cX3_widen 7 = .ok (.iconst 0, 1) := by decide +kernel
theorem dX3_widen_8 : decode cX3_widen 8 = .ok (.ireturn, 1) := by decide +kernel
theorem dX3_widen_9 : decode cX3_widen 9 = .ok (.aload_n 0, 1) := by decide +kernel
theorem dX3_widen_10 : decode cX3_widen 10 = .ok (.getfield 54, 3) := by decide +kernel
theorem dX3_widen_13 : decode cX3_widen 13 = .ok (.ifCond .ne 19, 3) := by decide +kernel
theorem dX3_widen_16 : decode cX3_widen 16 = .ok (.aload_n 0, 1) := by decide +kernel
theorem dX3_widen_17 : decode cX3_widen 17 = .ok (.getfield 57, 3) := by decide +kernel
theorem dX3_widen_20 : decode cX3_widen 20 = .ok (.bipush 6, 2) := by decide +kernel
theorem dX3_widen_22 : decode cX3_widen 22 = .ok (.if_icmp .eq 10, 3) := by decide +kernel
theorem dX3_widen_25 : decode cX3_widen 25 = .ok (.aload_n 0, 1) := by decide +kernel
theorem dX3_widen_26 : decode cX3_widen 26 = .ok (.invokevirtual 154, 3) := by decide +kernel
theorem dX3_widen_29 : decode cX3_widen 29 = .ok (.ifCond .eq 9, 3) := by decide +kernel
theorem dX3_widen_32 : decode cX3_widen 32 = .ok (.aload_n 0, 1) := by decide +kernel
theorem dX3_widen_33 : decode cX3_widen 33 = .ok (.iconst 2, 1) := by decide +kernel
theorem dX3_widen_34 : decode cX3_widen 34 = .ok (.invokevirtual 125, 3) := by decide +kernel
theorem dX3_widen_37 : decode cX3_widen 37 = .ok (.ireturn, 1) := by decide +kernel
theorem dX3_widen_38 : decode cX3_widen 38 = .ok (.aload_n 0, 1) := by decide +kernel
theorem dX3_widen_39 : decode cX3_widen 39 = .ok (.invokevirtual 129, 3) := by decide +kernel
theorem dX3_widen_42 : decode cX3_widen 42 = .ok (.sipush 160, 3) := by decide +kernel
theorem dX3_widen_45 : decode cX3_widen 45 = .ok (.aload_n 0, 1) := by decide +kernel
theorem dX3_widen_46 : decode cX3_widen 46 = .ok (.getfield 57, 3) := by decide +kernel
theorem dX3_widen_49 : decode cX3_widen 49 = .ok (.imul, 1) := by decide +kernel
theorem dX3_widen_50 : decode cX3_widen 50 = .ok (.istore_n 1, 1) := by decide +kernel
theorem dX3_widen_51 : decode cX3_widen 51 = .ok (.iload_n 1, 1) := by decide +kernel
theorem dX3_widen_52 : decode cX3_widen 52 = .ok (.sipush 160, 3) := by decide +kernel
theorem dX3_widen_55 : decode cX3_widen 55 = .ok (.aload_n 0, 1) := by decide +kernel
theorem dX3_widen_56 : decode cX3_widen 56 = .ok (.getfield 57, 3) := by decide +kernel
theorem dX3_widen_59 : decode cX3_widen 59 = .ok (.imul, 1) := by decide +kernel
theorem dX3_widen_60 : decode cX3_widen 60 = .ok (.sipush 160, 3) := by decide +kernel
theorem dX3_widen_63 : decode cX3_widen 63 = .ok (.iadd, 1) := by decide +kernel
theorem dX3_widen_64 : decode cX3_widen 64 = .ok (.if_icmp .ge 16, 3) := by decide +kernel
theorem dX3_widen_67 : decode cX3_widen 67 = .ok (.aload_n 0, 1) := by decide +kernel
theorem dX3_widen_68 : decode cX3_widen 68 = .ok (.getfield 16, 3) := by decide +kernel
theorem dX3_widen_71 : decode cX3_widen 71 = .ok (.iload_n 1, 1) := by decide +kernel
theorem dX3_widen_72 : decode cX3_widen 72 = .ok (.iconst 0, 1) := by decide +kernel
theorem dX3_widen_73 : decode cX3_widen 73 = .ok (.iastore, 1) := by decide +kernel
theorem dX3_widen_74 : decode cX3_widen 74 = .ok (.iinc 1 1, 3) := by decide +kernel
theorem dX3_widen_77 : decode cX3_widen 77 = .ok (.goto (-26), 3) := by decide +kernel
theorem dX3_widen_80 : decode cX3_widen 80 = .ok (.bipush 10, 2) := by decide +kernel
theorem dX3_widen_82 : decode cX3_widen 82 = .ok (.aload_n 0, 1) := by decide +kernel
theorem dX3_widen_83 : decode cX3_widen 83 = .ok (.getfield 57, 3) := by decide +kernel
theorem dX3_widen_86 : decode cX3_widen 86 = .ok (.imul, 1) := by decide +kernel
theorem dX3_widen_87 : decode cX3_widen 87 = .ok (.istore_n 1, 1) := by decide +kernel
theorem dX3_widen_88 : decode cX3_widen 88 = .ok (.iload_n 1, 1) := by decide +kernel
theorem dX3_widen_89 : decode cX3_widen 89 = .ok (.bipush 10, 2) := by decide +kernel
theorem dX3_widen_91 : decode cX3_widen 91 = .ok (.aload_n 0, 1) := by decide +kernel
theorem dX3_widen_92 : decode cX3_widen 92 = .ok (.getfield 57, 3) := by decide +kernel
theorem dX3_widen_95 : decode cX3_widen 95 = .ok (.imul, 1) := by decide +kernel
theorem dX3_widen_96 : decode cX3_widen 96 = .ok (.bipush 10, 2) := by decide +kernel
theorem dX3_widen_98 : decode cX3_widen 98 = .ok (.iadd, 1) := by decide +kernel
theorem dX3_widen_99 : decode cX3_widen 99 = .ok (.if_icmp .ge 16, 3) := by decide +kernel
theorem dX3_widen_102 : decode cX3_widen 102 = .ok (.aload_n 0, 1) := by decide +kernel
theorem dX3_widen_103 : decode cX3_widen 103 = .ok (.getfield 20, 3) := by decide +kernel
theorem dX3_widen_106 : decode cX3_widen 106 = .ok (.iload_n 1, 1) := by decide +kernel
theorem dX3_widen_107 : decode cX3_widen 107 = .ok (.iconst 0, 1) := by decide +kernel
theorem dX3_widen_108 : decode cX3_widen 108 = .ok (.iastore, 1) := by decide +kernel
theorem dX3_widen_109 : decode cX3_widen 109 = .ok (.iinc 1 1, 3) := by decide +kernel
theorem dX3_widen_112 : decode cX3_widen 112 = .ok (.goto (-24), 3) := by decide +kernel
theorem dX3_widen_115 : decode cX3_widen 115 = .ok (.aload_n 0, 1) := by decide +kernel
theorem dX3_widen_116 : decode cX3_widen 116 = .ok (.aload_n 0, 1) := by decide +kernel
theorem dX3_widen_117 : decode cX3_widen 117 = .ok (.getfield 57, 3) := by decide +kernel
theorem dX3_widen_120 : decode cX3_widen 120 = .ok (.iconst 1, 1) := by decide +kernel
theorem dX3_widen_121 : decode cX3_widen 121 = .ok (.iconst 0, 1) := by decide +kernel
theorem dX3_widen_122 : decode cX3_widen 122 = .ok (.iconst 0, 1) := by decide +kernel
theorem dX3_widen_123 : decode cX3_widen 123 = .ok (.aload_n 0, 1) := by decide +kernel
theorem dX3_widen_124 : decode cX3_widen 124 = .ok (.getfield 57, 3) := by decide +kernel
theorem dX3_widen_127 : decode cX3_widen 127 = .ok (.iconst 1, 1) := by decide +kernel
theorem dX3_widen_128 : decode cX3_widen 128 = .ok (.iadd, 1) := by decide +kernel
theorem dX3_widen_129 : decode cX3_widen 129 = .ok (.invokevirtual 132, 3) := by decide +kernel
theorem dX3_widen_132 : decode cX3_widen 132 = .ok (.aload_n 0, 1) := by decide +kernel
theorem dX3_widen_133 : decode cX3_widen 133 = .ok (.iconst 1, 1) := by decide +kernel
theorem dX3_widen_134 : decode cX3_widen 134 = .ok (.invokevirtual 136, 3) := by decide +kernel
theorem dX3_widen_137 : decode cX3_widen 137 = .ok (.ifCond .ne 9, 3) := by decide +kernel
theorem dX3_widen_140 : decode cX3_widen 140 = .ok (.aload_n 0, 1) := by decide +kernel
theorem dX3_widen_141 : decode cX3_widen 141 = .ok (.iconst 3, 1) := by decide +kernel
theorem dX3_widen_142 : decode cX3_widen 142 = .ok (.invokevirtual 125, 3) := by decide +kernel
theorem dX3_widen_145 : decode cX3_widen 145 = .ok (.ireturn, 1) := by decide +kernel
theorem dX3_widen_146 : decode cX3_widen 146 = .ok (.aload_n 0, 1) := by decide +kernel
theorem dX3_widen_147 : decode cX3_widen 147 = .ok (.dup, 1) := by decide +kernel
theorem dX3_widen_148 : decode cX3_widen 148 = .ok (.getfield 106, 3) := by decide +kernel
theorem dX3_widen_151 : decode cX3_widen 151 = .ok (.iconst 1, 1) := by decide +kernel
theorem dX3_widen_152 : decode cX3_widen 152 = .ok (.iadd, 1) := by decide +kernel
theorem dX3_widen_153 : decode cX3_widen 153 = .ok (.putfield 106, 3) := by decide +kernel
theorem dX3_widen_156 : decode cX3_widen 156 = .ok (.aload_n 0, 1) := by decide +kernel
theorem dX3_widen_157 : decode cX3_widen 157 = .ok (.iconst 1, 1) := by decide +kernel
theorem dX3_widen_158 : decode cX3_widen 158 = .ok (.putfield 54, 3) := by decide +kernel
theorem dX3_widen_161 : decode cX3_widen 161 = .ok (.aload_n 0, 1) := by decide +kernel
theorem dX3_widen_162 : decode cX3_widen 162 = .ok (.iconst 0, 1) := by decide +kernel
theorem dX3_widen_163 : decode cX3_widen 163 = .ok (.putfield 64, 3) := by decide +kernel
theorem dX3_widen_166 : decode cX3_widen 166 = .ok (.aload_n 0, 1) := by decide +kernel
theorem dX3_widen_167 : decode cX3_widen 167 = .ok (.getfield 57, 3) := by decide +kernel
theorem dX3_widen_170 : decode cX3_widen 170 = .ok (.iconst 1, 1) := by decide +kernel
theorem dX3_widen_171 : decode cX3_widen 171 = .ok (.iadd, 1) := by decide +kernel
theorem dX3_widen_172 : decode cX3_widen 172 = .ok (.ireturn, 1) := by decide +kernel
set_option maxRecDepth 20000 in
theorem ggX3_stash_X3_wordAt : GoodIn wsX3_stash wsX3_wordAt := goodIn_r _ [10, 3, 1, 11, 12, 13, 14, 9, 15, 16, 17, 18, 19, 5, 20, 21, 22, 23, 24, 25, 26, 27, 28, 29, 30, 31, 32, 33, 34, 35, 36, 37, 38, 39, 40, 41, 42, 43, 44, 45, 46, 79, 80, 81, 82, 83, 84, 85, 86, 87, 88, 89, 90, 91, 92, 93, 94, 95, 96, 97, 98, 99, 100, 101, 102] (by decide +kernel) (by decide +kernel)
set_option maxRecDepth 20000 in
theorem gX3_stash_X3_wordAt : GoodIn wsX3_stash (wsV RX3 151 RX3 yX3_wordAt wsX3_wordAt) := goodIn_app (goodIn_of _ (by decide +kernel)) ggX3_stash_X3_wordAt
set_option maxRecDepth 20000 in
theorem ggX3_stash_X3_issueBlock : GoodIn wsX3_stash wsX3_issueBlock := goodIn_r _ [50, 51, 52, 2, 53, 54, 55, 9, 56, 57, 58, 79, 80, 81, 82, 83, 84, 85, 86, 87, 88, 89, 90, 91, 92, 93, 94, 95, 96, 97, 98, 99, 100, 101, 102] (by decide +kernel) (by decide +kernel)
set_option maxRecDepth 20000 in
theorem gX3_stash_X3_issueBlock : GoodIn wsX3_stash (wsV RX3 148 RX3 yX3_issueBlock wsX3_issueBlock) := goodIn_app (goodIn_of _ (by decide +kernel)) ggX3_stash_X3_issueBlock
set_option maxRecDepth 20000 in
theorem ggX3_stash_X3_holds : GoodIn wsX3_stash wsX3_holds := goodIn_r _ [62, 63, 64, 65, 66, 52, 57, 67, 68, 69, 70, 71, 72, 9, 73, 58, 51, 74, 11, 23, 24, 25, 26, 27, 28, 29, 30, 31, 79, 80, 81, 82, 83, 84, 85, 86, 87, 88, 89, 90, 91, 92, 93, 94, 95, 96, 97, 98, 99, 100, 101, 102] (by decide +kernel) (by decide +kernel)
set_option maxRecDepth 20000 in
theorem gX3_stash_X3_holds : GoodIn wsX3_stash (wsV RX3 136 RX3 yX3_holds wsX3_holds) := goodIn_app (goodIn_of _ (by decide +kernel)) ggX3_stash_X3_holds
set_option maxRecDepth 20000 in
theorem ggX3_stash_X3_issueMarks : GoodIn wsX3_stash wsX3_issueMarks := goodIn_r _ [78, 51, 52, 4, 53, 54, 55, 9, 56, 57, 58, 79, 80, 81, 82, 83, 84, 85, 86, 87, 88, 89, 90, 91, 92, 93, 94, 95, 96, 97, 98, 99, 100, 101, 102] (by decide +kernel) (by decide +kernel)
set_option maxRecDepth 20000 in
theorem gX3_stash_X3_issueMarks : GoodIn wsX3_stash (wsV RX3 132 RX3 yX3_issueMarks wsX3_issueMarks) := goodIn_app (goodIn_of _ (by decide +kernel)) ggX3_stash_X3_issueMarks
theorem dX3_stash_0 : decode cX3_stash 0 = .ok (.iconst 0, 1) := by decide +kernel
theorem dX3_stash_1 : decode cX3_stash 1 = .ok (.istore_n 1, 1) := by decide +kernel
theorem dX3_stash_2 : decode cX3_stash 2 = .ok (.iload_n 1, 1) := by decide +kernel
theorem dX3_stash_3 : decode cX3_stash 3 = .ok (.aload_n 0, 1) := by decide +kernel
theorem dX3_stash_4 : decode cX3_stash 4 = .ok (.getfield 57, 3) := by decide +kernel
theorem dX3_stash_7 : decode cX3_stash 7 = .ok (.if_icmp .ge 65, 3) := by decide +kernel
theorem dX3_stash_10 : decode cX3_stash 10 = .ok (.iconst 0, 1) := by decide +kernel
theorem dX3_stash_11 : decode cX3_stash 11 = .ok (.istore_n 2, 1) := by decide +kernel
theorem dX3_stash_12 : decode cX3_stash 12 = .ok (.iload_n 2, 1) := by decide +kernel
theorem dX3_stash_13 : decode cX3_stash 13 = .ok (.iconst 4, 1) := by decide +kernel
theorem dX3_stash_14 : decode cX3_stash 14 = .ok (.if_icmp .ge 31, 3) := by decide +kernel
theorem dX3_stash_17 : decode cX3_stash 17 = .ok (.aload_n 0, 1) := by decide +kernel
theorem dX3_stash_18 : decode cX3_stash 18 = .ok (.getfield 38, 3) := by decide +kernel
theorem dX3_stash_21 : decode cX3_stash 21 = .ok (.iload_n 2, 1) := by decide +kernel
theorem dX3_stash_22 : decode cX3_stash 22 = .ok (.aload_n 0, 1) := by decide +kernel
theorem dX3_stash_23 : decode cX3_stash 23 = .ok (.aload_n 0, 1) := by decide +kernel
theorem dX3_stash_24 : decode cX3_stash 24 = .ok (.getfield 64, 3) := by decide +kernel
theorem dX3_stash_27 : decode cX3_stash 27 = .ok (.aload_n 0, 1) := by decide +kernel
theorem dX3_stash_28 : decode cX3_stash 28 = .ok (.getfield 57, 3) := by decide +kernel
theorem dX3_stash_31 : decode cX3_stash 31 = .ok (.imul, 1) := by decide +kernel
theorem dX3_stash_32 : decode cX3_stash 32 = .ok (.iload_n 1, 1) := by decide +kernel
theorem dX3_stash_33 : decode cX3_stash 33 = .ok (.iadd, 1) := by decide +kernel
theorem dX3_stash_34 : decode cX3_stash 34 = .ok (.iload_n 2, 1) := by decide +kernel
theorem dX3_stash_35 : decode cX3_stash 35 = .ok (.invokevirtual 151, 3) := by decide +kernel
theorem dX3_stash_38 : decode cX3_stash 38 = .ok (.iastore, 1) := by decide +kernel
theorem dX3_stash_39 : decode cX3_stash 39 = .ok (.iinc 2 1, 3) := by decide +kernel
theorem dX3_stash_42 : decode cX3_stash 42 = .ok (.goto (-30), 3) := by decide +kernel
theorem dX3_stash_45 : decode cX3_stash 45 = .ok (.aload_n 0, 1) := by decide +kernel
theorem dX3_stash_46 : decode cX3_stash 46 = .ok (.aload_n 0, 1) := by decide +kernel
theorem dX3_stash_47 : decode cX3_stash 47 = .ok (.getfield 57, 3) := by decide +kernel
theorem dX3_stash_50 : decode cX3_stash 50 = .ok (.bipush 32, 2) := by decide +kernel
theorem dX3_stash_52 : decode cX3_stash 52 = .ok (.iload_n 1, 1) := by decide +kernel
theorem dX3_stash_53 : decode cX3_stash 53 = .ok (.iadd, 1) := by decide +kernel
theorem dX3_stash_54 : decode cX3_stash 54 = .ok (.invokevirtual 148, 3) := by decide +kernel
theorem dX3_stash_57 : decode cX3_stash 57 = .ok (.aload_n 0, 1) := by decide +kernel
theorem dX3_stash_58 : decode cX3_stash 58 = .ok (.iconst 0, 1) := by decide +kernel
theorem dX3_stash_59 : decode cX3_stash 59 = .ok (.bipush 32, 2) := by decide +kernel
theorem dX3_stash_61 : decode cX3_stash 61 = .ok (.iload_n 1, 1) := by decide +kernel
theorem dX3_stash_62 : decode cX3_stash 62 = .ok (.iadd, 1) := by decide +kernel
theorem dX3_stash_63 : decode cX3_stash 63 = .ok (.invokevirtual 148, 3) := by decide +kernel
theorem dX3_stash_66 : decode cX3_stash 66 = .ok (.iinc 1 1, 3) := by decide +kernel
theorem dX3_stash_69 : decode cX3_stash 69 = .ok (.goto (-67), 3) := by decide +kernel
theorem dX3_stash_72 : decode cX3_stash 72 = .ok (.aload_n 0, 1) := by decide +kernel
theorem dX3_stash_73 : decode cX3_stash 73 = .ok (.iconst 0, 1) := by decide +kernel
theorem dX3_stash_74 : decode cX3_stash 74 = .ok (.invokevirtual 136, 3) := by decide +kernel
theorem dX3_stash_77 : decode cX3_stash 77 = .ok (.ifCond .ne 5, 3) := by decide +kernel
theorem dX3_stash_80 : decode cX3_stash 80 = .ok (.iconst 0, 1) := by decide +kernel
theorem dX3_stash_81 : decode cX3_stash 81 = .ok (.ireturn, 1) := by decide +kernel
theorem dX3_stash_82 : decode cX3_stash 82 = .ok (.aload_n 0, 1) := by decide +kernel
theorem dX3_stash_83 : decode cX3_stash 83 = .ok (.aload_n 0, 1) := by decide +kernel
theorem dX3_stash_84 : decode cX3_stash 84 = .ok (.getfield 57, 3) := by decide +kernel
theorem dX3_stash_87 : decode cX3_stash 87 = .ok (.iconst 1, 1) := by decide +kernel
theorem dX3_stash_88 : decode cX3_stash 88 = .ok (.aload_n 0, 1) := by decide +kernel
theorem dX3_stash_89 : decode cX3_stash 89 = .ok (.getfield 64, 3) := by decide +kernel
theorem dX3_stash_92 : decode cX3_stash 92 = .ok (.iconst 1, 1) := by decide +kernel
theorem dX3_stash_93 : decode cX3_stash 93 = .ok (.aload_n 0, 1) := by decide +kernel
