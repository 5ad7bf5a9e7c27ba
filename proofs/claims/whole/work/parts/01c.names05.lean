theorem dX3_stash_94 : decode cX3_stash 94 = .ok (.getfield 57, 3) := by decide +kernel
theorem dX3_stash_97 : decode cX3_stash 97 = .ok (.iconst 1, 1) := by decide +kernel
theorem dX3_stash_98 : decode cX3_stash 98 = .ok (.iadd, 1) := by decide +kernel
theorem dX3_stash_99 : decode cX3_stash 99 = .ok (.invokevirtual 132, 3) := by decide +kernel
theorem dX3_stash_102 : decode cX3_stash 102 = .ok (.aload_n 0, 1) := by decide +kernel
theorem dX3_stash_103 : decode cX3_stash 103 = .ok (.iconst 0, 1) := by decide +kernel
theorem dX3_stash_104 : decode cX3_stash 104 = .ok (.invokevirtual 136, 3) := by decide +kernel
theorem dX3_stash_107 : decode cX3_stash 107 = .ok (.ifCond .ne 5, 3) := by decide +kernel
theorem dX3_stash_110 : decode cX3_stash 110 = .ok (.iconst 0, 1) := by decide +kernel
theorem dX3_stash_111 : decode cX3_stash 111 = .ok (.ireturn, 1) := by decide +kernel
theorem dX3_stash_112 : decode cX3_stash 112 = .ok (.aload_n 0, 1) := by decide +kernel
theorem dX3_stash_113 : decode cX3_stash 113 = .ok (.dup, 1) := by decide +kernel
theorem dX3_stash_114 : decode cX3_stash 114 = .ok (.getfield 106, 3) := by decide +kernel
theorem dX3_stash_117 : decode cX3_stash 117 = .ok (.iconst 1, 1) := by decide +kernel
theorem dX3_stash_118 : decode cX3_stash 118 = .ok (.iadd, 1) := by decide +kernel
theorem dX3_stash_119 : decode cX3_stash 119 = .ok (.putfield 106, 3) := by decide +kernel
theorem dX3_stash_122 : decode cX3_stash 122 = .ok (.aload_n 0, 1) := by decide +kernel
theorem dX3_stash_123 : decode cX3_stash 123 = .ok (.iconst 1, 1) := by decide +kernel
theorem dX3_stash_124 : decode cX3_stash 124 = .ok (.putfield 67, 3) := by decide +kernel
theorem dX3_stash_127 : decode cX3_stash 127 = .ok (.iconst 1, 1) := by decide +kernel
theorem dX3_stash_128 : decode cX3_stash 128 = .ok (.ireturn, 1) := by decide +kernel
set_option maxRecDepth 20000 in
theorem ggX3_lay_X3_wordAt : GoodIn wsX3_lay wsX3_wordAt := goodIn_r _ [12, 4, 2, 13, 14, 15, 16, 11, 17, 18, 19, 20, 21, 6, 22, 23, 24, 25, 26, 27, 28, 29, 30, 31, 32, 33, 34, 35, 36, 37, 7, 38, 39, 40, 41, 42, 43, 44, 45, 46, 47, 80, 81, 82, 83, 84, 85, 86, 87, 88, 89, 90, 91, 92, 93, 94, 95, 96, 97, 98, 99, 100, 101, 102, 103] (by decide +kernel) (by decide +kernel)
set_option maxRecDepth 20000 in
theorem gX3_lay_X3_wordAt : GoodIn wsX3_lay (wsV RX3 151 RX3 yX3_wordAt wsX3_wordAt) := goodIn_app (goodIn_of _ (by decide +kernel)) ggX3_lay_X3_wordAt
set_option maxRecDepth 20000 in
theorem ggX3_lay_X3_dataDisk : GoodIn wsX3_lay wsX3_dataDisk := goodIn_r _ [40, 41, 42, 11, 43] (by decide +kernel) (by decide +kernel)
set_option maxRecDepth 20000 in
theorem gX3_lay_X3_dataDisk : GoodIn wsX3_lay (va_wsS RX3 92 yX3_dataDisk wsX3_dataDisk) := goodIn_app (goodIn_of _ (by decide +kernel)) ggX3_lay_X3_dataDisk
set_option maxRecDepth 20000 in
theorem ggX3_lay_X3_issueBlock : GoodIn wsX3_lay wsX3_issueBlock := goodIn_r _ [51, 52, 53, 3, 54, 55, 56, 11, 57, 58, 59, 80, 81, 82, 83, 84, 85, 86, 87, 88, 89, 90, 91, 92, 93, 94, 95, 96, 97, 98, 99, 100, 101, 102, 103] (by decide +kernel) (by decide +kernel)
set_option maxRecDepth 20000 in
theorem gX3_lay_X3_issueBlock : GoodIn wsX3_lay (wsV RX3 148 RX3 yX3_issueBlock wsX3_issueBlock) := goodIn_app (goodIn_of _ (by decide +kernel)) ggX3_lay_X3_issueBlock
set_option maxRecDepth 20000 in
theorem ggX3_lay_X3_parityDisk : GoodIn wsX3_lay wsX3_parityDisk := goodIn_r _ [43] (by decide +kernel) (by decide +kernel)
set_option maxRecDepth 20000 in
theorem gX3_lay_X3_parityDisk : GoodIn wsX3_lay (va_wsS RX3 60 yX3_parityDisk wsX3_parityDisk) := goodIn_app (goodIn_of _ (by decide +kernel)) ggX3_lay_X3_parityDisk
set_option maxRecDepth 20000 in
theorem ggX3_lay_X3_holds : GoodIn wsX3_lay wsX3_holds := goodIn_r _ [63, 64, 65, 66, 67, 53, 58, 68, 69, 70, 71, 72, 73, 11, 74, 59, 52, 75, 13, 25, 26, 27, 28, 29, 30, 31, 32, 33, 80, 81, 82, 83, 84, 85, 86, 87, 88, 89, 90, 91, 92, 93, 94, 95, 96, 97, 98, 99, 100, 101, 102, 103] (by decide +kernel) (by decide +kernel)
set_option maxRecDepth 20000 in
theorem gX3_lay_X3_holds : GoodIn wsX3_lay (wsV RX3 136 RX3 yX3_holds wsX3_holds) := goodIn_app (goodIn_of _ (by decide +kernel)) ggX3_lay_X3_holds
set_option maxRecDepth 20000 in
theorem ggX3_lay_X3_issueMarks : GoodIn wsX3_lay wsX3_issueMarks := goodIn_r _ [79, 52, 53, 5, 54, 55, 56, 11, 57, 58, 59, 80, 81, 82, 83, 84, 85, 86, 87, 88, 89, 90, 91, 92, 93, 94, 95, 96, 97, 98, 99, 100, 101, 102, 103] (by decide +kernel) (by decide +kernel)
set_option maxRecDepth 20000 in
theorem gX3_lay_X3_issueMarks : GoodIn wsX3_lay (wsV RX3 132 RX3 yX3_issueMarks wsX3_issueMarks) := goodIn_app (goodIn_of _ (by decide +kernel)) ggX3_lay_X3_issueMarks
theorem dX3_lay_0 : decode cX3_lay 0 = .ok (.iconst 0, 1) := by decide +kernel
theorem dX3_lay_1 : decode cX3_lay 1 = .ok (.istore_n 1, 1) := by decide +kernel
theorem dX3_lay_2 : decode cX3_lay 2 = .ok (.iload_n 1, 1) := by decide +kernel
theorem dX3_lay_3 : decode cX3_lay 3 = .ok (.iconst 4, 1) := by decide +kernel
theorem dX3_lay_4 : decode cX3_lay 4 = .ok (.if_icmp .ge 16, 3) := by decide +kernel
theorem dX3_lay_7 : decode cX3_lay 7 = .ok (.aload_n 0, 1) := by decide +kernel
theorem dX3_lay_8 : decode cX3_lay 8 = .ok (.getfield 41, 3) := by decide +kernel
theorem dX3_lay_11 : decode cX3_lay 11 = .ok (.iload_n 1, 1) := by decide +kernel
theorem dX3_lay_12 : decode cX3_lay 12 = .ok (.iconst 0, 1) := by decide +kernel
theorem dX3_lay_13 : decode cX3_lay 13 = .ok (.iastore, 1) := by decide +kernel
theorem dX3_lay_14 : decode cX3_lay 14 = .ok (.iinc 1 1, 3) := by decide +kernel
theorem dX3_lay_17 : decode cX3_lay 17 = .ok (.goto (-15), 3) := by decide +kernel
theorem dX3_lay_20 : decode cX3_lay 20 = .ok (.iconst 0, 1) := by decide +kernel
theorem dX3_lay_21 : decode cX3_lay 21 = .ok (.istore_n 1, 1) := by decide +kernel
theorem dX3_lay_22 : decode cX3_lay 22 = .ok (.iload_n 1, 1) := by decide +kernel
theorem dX3_lay_23 : decode cX3_lay 23 = .ok (.aload_n 0, 1) := by decide +kernel
theorem dX3_lay_24 : decode cX3_lay 24 = .ok (.getfield 57, 3) := by decide +kernel
theorem dX3_lay_27 : decode cX3_lay 27 = .ok (.if_icmp .ge 85, 3) := by decide +kernel
theorem dX3_lay_30 : decode cX3_lay 30 = .ok (.iconst 0, 1) := by decide +kernel
theorem dX3_lay_31 : decode cX3_lay 31 = .ok (.istore_n 2, 1) := by decide +kernel
theorem dX3_lay_32 : decode cX3_lay 32 = .ok (.iload_n 2, 1) := by decide +kernel
theorem dX3_lay_33 : decode cX3_lay 33 = .ok (.iconst 4, 1) := by decide +kernel
theorem dX3_lay_34 : decode cX3_lay 34 = .ok (.if_icmp .ge 50, 3) := by decide +kernel
theorem dX3_lay_37 : decode cX3_lay 37 = .ok (.aload_n 0, 1) := by decide +kernel
theorem dX3_lay_38 : decode cX3_lay 38 = .ok (.getfield 38, 3) := by decide +kernel
theorem dX3_lay_41 : decode cX3_lay 41 = .ok (.iload_n 2, 1) := by decide +kernel
theorem dX3_lay_42 : decode cX3_lay 42 = .ok (.aload_n 0, 1) := by decide +kernel
theorem dX3_lay_43 : decode cX3_lay 43 = .ok (.aload_n 0, 1) := by decide +kernel
theorem dX3_lay_44 : decode cX3_lay 44 = .ok (.getfield 64, 3) := by decide +kernel
theorem dX3_lay_47 : decode cX3_lay 47 = .ok (.aload_n 0, 1) := by decide +kernel
theorem dX3_lay_48 : decode cX3_lay 48 = .ok (.getfield 57, 3) := by decide +kernel
theorem dX3_lay_51 : decode cX3_lay 51 = .ok (.imul, 1) := by decide +kernel
theorem dX3_lay_52 : decode cX3_lay 52 = .ok (.iload_n 1, 1) := by decide +kernel
theorem dX3_lay_53 : decode cX3_lay 53 = .ok (.iadd, 1) := by decide +kernel
theorem dX3_lay_54 : decode cX3_lay 54 = .ok (.iload_n 2, 1) := by decide +kernel
theorem dX3_lay_55 : decode cX3_lay 55 = .ok (.invokevirtual 151, 3) := by decide +kernel
theorem dX3_lay_58 : decode cX3_lay 58 = .ok (.iastore, 1) := by decide +kernel
theorem dX3_lay_59 : decode cX3_lay 59 = .ok (.aload_n 0, 1) := by decide +kernel
theorem dX3_lay_60 : decode cX3_lay 60 = .ok (.getfield 41, 3) := by decide +kernel
theorem dX3_lay_63 : decode cX3_lay 63 = .ok (.iload_n 2, 1) := by decide +kernel
theorem dX3_lay_64 : decode cX3_lay 64 = .ok (.aload_n 0, 1) := by decide +kernel
theorem dX3_lay_65 : decode cX3_lay 65 = .ok (.getfield 41, 3) := by decide +kernel
theorem dX3_lay_68 : decode cX3_lay 68 = .ok (.iload_n 2, 1) := by decide +kernel
theorem dX3_lay_69 : decode cX3_lay 69 = .ok (.iaload, 1) := by decide +kernel
theorem dX3_lay_70 : decode cX3_lay 70 = .ok (.aload_n 0, 1) := by decide +kernel
theorem dX3_lay_71 : decode cX3_lay 71 = .ok (.getfield 38, 3) := by decide +kernel
theorem dX3_lay_74 : decode cX3_lay 74 = .ok (.iload_n 2, 1) := by decide +kernel
theorem dX3_lay_75 : decode cX3_lay 75 = .ok (.iaload, 1) := by decide +kernel
theorem dX3_lay_76 : decode cX3_lay 76 = .ok (.ixor, 1) := by decide +kernel
theorem dX3_lay_77 : decode cX3_lay 77 = .ok (.iastore, 1) := by decide +kernel
theorem dX3_lay_78 : decode cX3_lay 78 = .ok (.iinc 2 1, 3) := by decide +kernel
theorem dX3_lay_81 : decode cX3_lay 81 = .ok (.goto (-49), 3) := by decide +kernel
theorem dX3_lay_84 : decode cX3_lay 84 = .ok (.aload_n 0, 1) := by decide +kernel
theorem dX3_lay_85 : decode cX3_lay 85 = .ok (.aload_n 0, 1) := by decide +kernel
theorem dX3_lay_86 : decode cX3_lay 86 = .ok (.getfield 57, 3) := by decide +kernel
theorem dX3_lay_89 : decode cX3_lay 89 = .ok (.iconst 1, 1) := by decide +kernel
theorem dX3_lay_90 : decode cX3_lay 90 = .ok (.iadd, 1) := by decide +kernel
theorem dX3_lay_91 : decode cX3_lay 91 = .ok (.aload_n 0, 1) := by decide +kernel
theorem dX3_lay_92 : decode cX3_lay 92 = .ok (.getfield 64, 3) := by decide +kernel
theorem dX3_lay_95 : decode cX3_lay 95 = .ok (.iload_n 1, 1) := by decide +kernel
theorem dX3_lay_96 : decode cX3_lay 96 = .ok (.invokestatic 92, 3) := by decide +kernel
theorem dX3_lay_99 : decode cX3_lay 99 = .ok (.aload_n 0, 1) := by decide +kernel
theorem dX3_lay_100 : decode cX3_lay 100 = .ok (.getfield 64, 3) := by decide +kernel
theorem dX3_lay_103 : decode cX3_lay 103 = .ok (.invokevirtual 148, 3) := by decide +kernel
theorem dX3_lay_106 : decode cX3_lay 106 = .ok (.iinc 1 1, 3) := by decide +kernel
theorem dX3_lay_109 : decode cX3_lay 109 = .ok (.goto (-87), 3) := by decide +kernel
theorem dX3_lay_112 : decode cX3_lay 112 = .ok (.iconst 0, 1) := by decide +kernel
theorem dX3_lay_113 : decode cX3_lay 113 = .ok (.istore_n 1, 1) := by decide +kernel
theorem dX3_lay_114 : decode cX3_lay 114 = .ok (.iload_n 1, 1) := by decide +kernel
theorem dX3_lay_115 : decode cX3_lay 115 = .ok (.iconst 4, 1) := by decide +kernel
theorem dX3_lay_116 : decode cX3_lay 116 = .ok (.if_icmp .ge 21, 3) := by decide +kernel
theorem dX3_lay_119 : decode cX3_lay 119 = .ok (.aload_n 0, 1) := by decide +kernel
theorem dX3_lay_120 : decode cX3_lay 120 = .ok (.getfield 38, 3) := by decide +kernel
theorem dX3_lay_123 : decode cX3_lay 123 = .ok (.iload_n 1, 1) := by decide +kernel
theorem dX3_lay_124 : decode cX3_lay 124 = .ok (.aload_n 0, 1) := by decide +kernel
theorem dX3_lay_125 : decode cX3_lay 125 = .ok (.getfield 41, 3) := by decide +kernel
theorem dX3_lay_128 : decode cX3_lay 128 = .ok (.iload_n 1, 1) := by decide +kernel
theorem dX3_lay_129 : decode cX3_lay 129 = .ok (.iaload, 1) := by decide +kernel
theorem dX3_lay_130 : decode cX3_lay 130 = .ok (.iastore, 1) := by decide +kernel
theorem dX3_lay_131 : decode cX3_lay 131 = .ok (.iinc 1 1, 3) := by decide +kernel
theorem dX3_lay_134 : decode cX3_lay 134 = .ok (.goto (-20), 3) := by decide +kernel
theorem dX3_lay_137 : decode cX3_lay 137 = .ok (.aload_n 0, 1) := by decide +kernel
theorem dX3_lay_138 : decode cX3_lay 138 = .ok (.aload_n 0, 1) := by decide +kernel
theorem dX3_lay_139 : decode cX3_lay 139 = .ok (.getfield 57, 3) := by decide +kernel
theorem dX3_lay_142 : decode cX3_lay 142 = .ok (.iconst 1, 1) := by decide +kernel
theorem dX3_lay_143 : decode cX3_lay 143 = .ok (.iadd, 1) := by decide +kernel
theorem dX3_lay_144 : decode cX3_lay 144 = .ok (.aload_n 0, 1) := by decide +kernel
theorem dX3_lay_145 : decode cX3_lay 145 = .ok (.getfield 64, 3) := by decide +kernel
theorem dX3_lay_148 : decode cX3_lay 148 = .ok (.invokestatic 60, 3) := by decide +kernel
theorem dX3_lay_151 : decode cX3_lay 151 = .ok (.aload_n 0, 1) := by decide +kernel
theorem dX3_lay_152 : decode cX3_lay 152 = .ok (.getfield 64, 3) := by decide +kernel
theorem dX3_lay_155 : decode cX3_lay 155 = .ok (.invokevirtual 148, 3) := by decide +kernel
theorem dX3_lay_158 : decode cX3_lay 158 = .ok (.aload_n 0, 1) := by decide +kernel
theorem dX3_lay_159 : decode cX3_lay 159 = .ok (.iconst 0, 1) := by decide +kernel
theorem dX3_lay_160 : decode cX3_lay 160 = .ok (.invokevirtual 136, 3) := by decide +kernel
theorem dX3_lay_163 : decode cX3_lay 163 = .ok (.ifCond .ne 5, 3) := by decide +kernel
theorem dX3_lay_166 : decode cX3_lay 166 = .ok (.iconst 0, 1) := by decide +kernel
theorem dX3_lay_167 : decode cX3_lay 167 = .ok (.ireturn, 1) := by decide +kernel
theorem dX3_lay_168 : decode cX3_lay 168 = .ok (.aload_n 0, 1) := by decide +kernel
theorem dX3_lay_169 : decode cX3_lay 169 = .ok (.getfield 64, 3) := by decide +kernel
theorem dX3_lay_172 : decode cX3_lay 172 = .ok (.iconst 1, 1) := by decide +kernel
theorem dX3_lay_173 : decode cX3_lay 173 = .ok (.iadd, 1) := by decide +kernel
theorem dX3_lay_174 : decode cX3_lay 174 = .ok (.bipush 32, 2) := by decide +kernel
theorem dX3_lay_176 : decode cX3_lay 176 = .ok (.if_icmp .ne 7, 3) := by decide +kernel
theorem dX3_lay_179 : decode cX3_lay 179 = .ok (.iconst 1, 1) := by decide +kernel
theorem dX3_lay_180 : decode cX3_lay 180 = .ok (.goto 4, 3) := by decide +kernel
theorem dX3_lay_183 : decode cX3_lay 183 = .ok (.iconst 0, 1) := by decide +kernel
theorem dX3_lay_184 : decode cX3_lay 184 = .ok (.istore_n 1, 1) := by decide +kernel
theorem dX3_lay_185 : decode cX3_lay 185 = .ok (.aload_n 0, 1) := by decide +kernel
theorem dX3_lay_186 : decode cX3_lay 186 = .ok (.iload_n 1, 1) := by decide +kernel
theorem dX3_lay_187 : decode cX3_lay 187 = .ok (.ifCond .eq 12, 3) := by decide +kernel
theorem dX3_lay_190 : decode cX3_lay 190 = .ok (.aload_n 0, 1) := by decide +kernel
theorem dX3_lay_191 : decode cX3_lay 191 = .ok (.getfield 57, 3) := by decide +kernel
theorem dX3_lay_194 : decode cX3_lay 194 = .ok (.iconst 1, 1) := by decide +kernel
theorem dX3_lay_195 : decode cX3_lay 195 = .ok (.iadd, 1) := by decide +kernel
theorem dX3_lay_196 : decode cX3_lay 196 = .ok (.goto 7, 3) := by decide +kernel
theorem dX3_lay_199 : decode cX3_lay 199 = .ok (.aload_n 0, 1) := by decide +kernel
theorem dX3_lay_200 : decode cX3_lay 200 = .ok (.getfield 57, 3) := by decide +kernel
theorem dX3_lay_203 : decode cX3_lay 203 = .ok (.iload_n 1, 1) := by decide +kernel
theorem dX3_lay_204 : decode cX3_lay 204 = .ok (.ifCond .ne 7, 3) := by decide +kernel
theorem dX3_lay_207 : decode cX3_lay 207 = .ok (.iconst 1, 1) := by decide +kernel
theorem dX3_lay_208 : decode cX3_lay 208 = .ok (.goto 4, 3) := by decide +kernel
theorem dX3_lay_211 : decode cX3_lay 211 = .ok (.iconst 0, 1) := by decide +kernel
theorem dX3_lay_212 : decode cX3_lay 212 = .ok (.iload_n 1, 1) := by decide +kernel
theorem dX3_lay_213 : decode cX3_lay 213 = .ok (.ifCond .eq 7, 3) := by decide +kernel
theorem dX3_lay_216 : decode cX3_lay 216 = .ok (.iconst 0, 1) := by decide +kernel
theorem dX3_lay_217 : decode cX3_lay 217 = .ok (.goto 9, 3) := by decide +kernel
theorem dX3_lay_220 : decode cX3_lay 220 = .ok (.aload_n 0, 1) := by decide +kernel
theorem dX3_lay_221 : decode cX3_lay 221 = .ok (.getfield 64, 3) := by decide +kernel
theorem dX3_lay_224 : decode cX3_lay 224 = .ok (.iconst 1, 1) := by decide +kernel
theorem dX3_lay_225 : decode cX3_lay 225 = .ok (.iadd, 1) := by decide +kernel
theorem dX3_lay_226 : decode cX3_lay 226 = .ok (.iconst 0, 1) := by decide +kernel
theorem dX3_lay_227 : decode cX3_lay 227 = .ok (.aload_n 0, 1) := by decide +kernel
theorem dX3_lay_228 : decode cX3_lay 228 = .ok (.getfield 57, 3) := by decide +kernel
theorem dX3_lay_231 : decode cX3_lay 231 = .ok (.iconst 1, 1) := by decide +kernel
theorem dX3_lay_232 : decode cX3_lay 232 = .ok (.iadd, 1) := by decide +kernel
theorem dX3_lay_233 : decode cX3_lay 233 = .ok (.invokevirtual 132, 3) := by decide +kernel
theorem dX3_lay_236 : decode cX3_lay 236 = .ok (.aload_n 0, 1) := by decide +kernel
theorem dX3_lay_237 : decode cX3_lay 237 = .ok (.iconst 1, 1) := by decide +kernel
theorem dX3_lay_238 : decode cX3_lay 238 = .ok (.invokevirtual 136, 3) := by decide +kernel
theorem dX3_lay_241 : decode cX3_lay 241 = .ok (.ifCond .ne 5, 3) := by decide +kernel
theorem dX3_lay_244 : decode cX3_lay 244 = .ok (.iconst 0, 1) := by decide +kernel
theorem dX3_lay_245 : decode cX3_lay 245 = .ok (.ireturn, 1) := by decide +kernel
theorem dX3_lay_246 : decode cX3_lay 246 = .ok (.aload_n 0, 1) := by decide +kernel
theorem dX3_lay_247 : decode cX3_lay 247 = .ok (.dup, 1) := by decide +kernel
theorem dX3_lay_248 : decode cX3_lay 248 = .ok (.getfield 106, 3) := by decide +kernel
theorem dX3_lay_251 : decode cX3_lay 251 = .ok (.iconst 1, 1) := by decide +kernel
theorem dX3_lay_252 : decode cX3_lay 252 = .ok (.iadd, 1) := by decide +kernel
theorem dX3_lay_253 : decode cX3_lay 253 = .ok (.putfield 106, 3) := by decide +kernel
theorem dX3_lay_256 : decode cX3_lay 256 = .ok (.aload_n 0, 1) := by decide +kernel
theorem dX3_lay_257 : decode cX3_lay 257 = .ok (.iconst 0, 1) := by decide +kernel
theorem dX3_lay_258 : decode cX3_lay 258 = .ok (.putfield 67, 3) := by decide +kernel
theorem dX3_lay_261 : decode cX3_lay 261 = .ok (.aload_n 0, 1) := by decide +kernel
theorem dX3_lay_262 : decode cX3_lay 262 = .ok (.iload_n 1, 1) := by decide +kernel
theorem dX3_lay_263 : decode cX3_lay 263 = .ok (.ifCond .eq 7, 3) := by decide +kernel
theorem dX3_lay_266 : decode cX3_lay 266 = .ok (.iconst 0, 1) := by decide +kernel
theorem dX3_lay_267 : decode cX3_lay 267 = .ok (.goto 9, 3) := by decide +kernel
theorem dX3_lay_270 : decode cX3_lay 270 = .ok (.aload_n 0, 1) := by decide +kernel
theorem dX3_lay_271 : decode cX3_lay 271 = .ok (.getfield 64, 3) := by decide +kernel
theorem dX3_lay_274 : decode cX3_lay 274 = .ok (.iconst 1, 1) := by decide +kernel
theorem dX3_lay_275 : decode cX3_lay 275 = .ok (.iadd, 1) := by decide +kernel
theorem dX3_lay_276 : decode cX3_lay 276 = .ok (.putfield 64, 3) := by decide +kernel
theorem dX3_lay_279 : decode cX3_lay 279 = .ok (.iload_n 1, 1) := by decide +kernel
theorem dX3_lay_280 : decode cX3_lay 280 = .ok (.ifCond .eq 18, 3) := by decide +kernel
theorem dX3_lay_283 : decode cX3_lay 283 = .ok (.aload_n 0, 1) := by decide +kernel
theorem dX3_lay_284 : decode cX3_lay 284 = .ok (.dup, 1) := by decide +kernel
theorem dX3_lay_285 : decode cX3_lay 285 = .ok (.getfield 57, 3) := by decide +kernel
theorem dX3_lay_288 : decode cX3_lay 288 = .ok (.iconst 1, 1) := by decide +kernel
theorem dX3_lay_289 : decode cX3_lay 289 = .ok (.iadd, 1) := by decide +kernel
theorem dX3_lay_290 : decode cX3_lay 290 = .ok (.putfield 57, 3) := by decide +kernel
theorem dX3_lay_293 : decode cX3_lay 293 = .ok (.aload_n 0, 1) := by decide +kernel
theorem dX3_lay_294 : decode cX3_lay 294 = .ok (.iconst 0, 1) := by decide +kernel
theorem dX3_lay_295 : decode cX3_lay 295 = .ok (.putfield 54, 3) := by decide +kernel
theorem dX3_lay_298 : decode cX3_lay 298 = .ok (.iconst 1, 1) := by decide +kernel
theorem dX3_lay_299 : decode cX3_lay 299 = .ok (.ireturn, 1) := by decide +kernel
set_option maxRecDepth 20000 in
theorem ggX3_step_X3_works : GoodIn wsX3_step wsX3_works := goodIn_r _ [8, 9, 10, 11, 102, 103, 104, 105, 106, 107, 108, 109, 110, 111, 112, 113, 114, 115, 116, 117, 118, 119, 120, 121, 122, 123, 124, 125] (by decide +kernel) (by decide +kernel)
set_option maxRecDepth 20000 in
theorem gX3_step_X3_works : GoodIn wsX3_step (wsV RX3 140 RX3 yX3_works wsX3_works) := goodIn_app (goodIn_of _ (by decide +kernel)) ggX3_step_X3_works
set_option maxRecDepth 20000 in
theorem ggX3_step_X3_fail : GoodIn wsX3_step wsX3_fail := goodIn_r _ [15, 11, 102, 103, 104, 105, 106, 107, 108, 109, 110, 111, 112, 113, 114, 115, 116, 117, 118, 119, 120, 121, 122, 123, 124, 125] (by decide +kernel) (by decide +kernel)
set_option maxRecDepth 20000 in
theorem gX3_step_X3_fail : GoodIn wsX3_step (wsV RX3 125 RX3 yX3_fail wsX3_fail) := goodIn_app (goodIn_of _ (by decide +kernel)) ggX3_step_X3_fail
set_option maxRecDepth 20000 in
theorem ggX3_step_X3_begin : GoodIn wsX3_step wsX3_begin := goodIn_r _ [19, 20, 21, 102, 103, 104, 105, 106, 107, 108, 109, 110, 111, 112, 113, 114, 115, 116, 117, 118, 119, 120, 121, 122, 123, 124, 125] (by decide +kernel) (by decide +kernel)
set_option maxRecDepth 20000 in
theorem gX3_step_X3_begin : GoodIn wsX3_step (wsV RX3 129 RX3 yX3_begin wsX3_begin) := goodIn_app (goodIn_of _ (by decide +kernel)) ggX3_step_X3_begin
set_option maxRecDepth 20000 in
theorem ggX3_step_X3_stash : GoodIn wsX3_step wsX3_stash := goodIn_r _ [25, 26, 27, 3, 28, 2, 29, 30, 31, 7, 32, 33, 34, 35, 36, 37, 38, 39, 40, 41, 42, 43, 44, 45, 46, 47, 48, 49, 50, 51, 52, 53, 54, 55, 56, 57, 1, 58, 59, 60, 61, 62, 63, 64, 65, 66, 67, 68, 69, 70, 71, 72, 21, 73, 74, 75, 76, 77, 78, 79, 80, 81, 82, 20, 83, 84, 85, 86, 87, 10, 88, 89, 90, 91, 92, 93, 94, 95, 96, 102, 103, 104, 105, 106, 107, 108, 109, 110, 111, 112, 113, 114, 115, 116, 117, 118, 119, 120, 121, 122, 123, 124, 125] (by decide +kernel) (by decide +kernel)
set_option maxRecDepth 20000 in
theorem gX3_step_X3_stash : GoodIn wsX3_step (wsV RX3 157 RX3 yX3_stash wsX3_stash) := goodIn_app (goodIn_of _ (by decide +kernel)) ggX3_step_X3_stash
set_option maxRecDepth 20000 in
theorem ggX3_step_X3_lay : GoodIn wsX3_step wsX3_lay := goodIn_r _ [100, 101, 26, 27, 3, 28, 2, 1, 29, 30, 31, 7, 32, 33, 34, 35, 36, 37, 38, 39, 40, 41, 42, 43, 44, 45, 46, 47, 48, 49, 50, 51, 52, 53, 54, 55, 56, 57, 58, 59, 60, 61, 62, 63, 64, 65, 66, 67, 68, 69, 70, 71, 72, 21, 73, 74, 75, 76, 77, 78, 79, 80, 81, 82, 20, 83, 84, 85, 86, 87, 10, 88, 89, 90, 91, 92, 93, 94, 95, 96, 102, 103, 104, 105, 106, 107, 108, 109, 110, 111, 112, 113, 114, 115, 116, 117, 118, 119, 120, 121, 122, 123, 124, 125] (by decide +kernel) (by decide +kernel)
set_option maxRecDepth 20000 in
theorem gX3_step_X3_lay : GoodIn wsX3_step (wsV RX3 160 RX3 yX3_lay wsX3_lay) := goodIn_app (goodIn_of _ (by decide +kernel)) ggX3_step_X3_lay
theorem dX3_step_0 : decode cX3_step 0 = .ok (.aload_n 0, 1) := by decide +kernel
theorem dX3_step_1 : decode cX3_step 1 = .ok (.invokevirtual 140, 3) := by decide +kernel
theorem dX3_step_4 : decode cX3_step 4 = .ok (.ifCond .ne 5, 3) := by decide +kernel
theorem dX3_step_7 : decode cX3_step 7 = .ok (.iconst 0, 1) := by decide +kernel
theorem dX3_step_8 : decode cX3_step 8 = .ok (.ireturn, 1) := by decide +kernel
theorem dX3_step_9 : decode cX3_step 9 = .ok (.aload_n 0, 1) := by decide +kernel
theorem dX3_step_10 : decode cX3_step 10 = .ok (.getfield 54, 3) := by decide +kernel
theorem dX3_step_13 : decode cX3_step 13 = .ok (.ifCond .ne 9, 3) := by decide +kernel
theorem dX3_step_16 : decode cX3_step 16 = .ok (.aload_n 0, 1) := by decide +kernel
theorem dX3_step_17 : decode cX3_step 17 = .ok (.iconst 2, 1) := by decide +kernel
theorem dX3_step_18 : decode cX3_step 18 = .ok (.invokevirtual 125, 3) := by decide +kernel
theorem dX3_step_21 : decode cX3_step 21 = .ok (.ireturn, 1) := by decide +kernel
theorem dX3_step_22 : decode cX3_step 22 = .ok (.aload_n 0, 1) := by decide +kernel
theorem dX3_step_23 : decode cX3_step 23 = .ok (.invokevirtual 129, 3) := by decide +kernel
theorem dX3_step_26 : decode cX3_step 26 = .ok (.aload_n 0, 1) := by decide +kernel
theorem dX3_step_27 : decode cX3_step 27 = .ok (.getfield 67, 3) := by decide +kernel
theorem dX3_step_30 : decode cX3_step 30 = .ok (.ifCond .ne 16, 3) := by decide +kernel
theorem dX3_step_33 : decode cX3_step 33 = .ok (.aload_n 0, 1) := by decide +kernel
theorem dX3_step_34 : decode cX3_step 34 = .ok (.invokevirtual 157, 3) := by decide +kernel
theorem dX3_step_37 : decode cX3_step 37 = .ok (.ifCond .ne 9, 3) := by decide +kernel
theorem dX3_step_40 : decode cX3_step 40 = .ok (.aload_n 0, 1) := by decide +kernel
theorem dX3_step_41 : decode cX3_step 41 = .ok (.iconst 3, 1) := by decide +kernel
theorem dX3_step_42 : decode cX3_step 42 = .ok (.invokevirtual 125, 3) := by decide +kernel
theorem dX3_step_45 : decode cX3_step 45 = .ok (.ireturn, 1) := by decide +kernel
theorem dX3_step_46 : decode cX3_step 46 = .ok (.aload_n 0, 1) := by decide +kernel
theorem dX3_step_47 : decode cX3_step 47 = .ok (.invokevirtual 160, 3) := by decide +kernel
theorem dX3_step_50 : decode cX3_step 50 = .ok (.ifCond .eq 10, 3) := by decide +kernel
theorem dX3_step_53 : decode cX3_step 53 = .ok (.aload_n 0, 1) := by decide +kernel
theorem dX3_step_54 : decode cX3_step 54 = .ok (.getfield 64, 3) := by decide +kernel
theorem dX3_step_57 : decode cX3_step 57 = .ok (.goto 8, 3) := by decide +kernel
theorem dX3_step_60 : decode cX3_step 60 = .ok (.aload_n 0, 1) := by decide +kernel
theorem dX3_step_61 : decode cX3_step 61 = .ok (.iconst 3, 1) := by decide +kernel
theorem dX3_step_62 : decode cX3_step 62 = .ok (.invokevirtual 125, 3) := by decide +kernel
theorem dX3_step_65 : decode cX3_step 65 = .ok (.ireturn, 1) := by decide +kernel
set_option maxRecDepth 20000 in
theorem ggX3_lose_X3_works : GoodIn wsX3_lose wsX3_works := goodIn_r _ [8, 9, 10, 1, 31, 32, 33, 34, 35, 36, 37, 38, 39, 40, 41, 42, 43, 44, 45, 46, 47, 48, 49, 50, 51, 52, 53, 54] (by decide +kernel) (by decide +kernel)
set_option maxRecDepth 20000 in
theorem gX3_lose_X3_works : GoodIn wsX3_lose (wsV RX3 140 RX3 yX3_works wsX3_works) := goodIn_app (goodIn_of _ (by decide +kernel)) ggX3_lose_X3_works
set_option maxRecDepth 20000 in
theorem ggX3_lose_X3_disks : GoodIn wsX3_lose wsX3_disks := goodIn_r _ [14, 15, 16, 31, 32, 33, 34, 35, 36, 37, 38, 39, 40, 41, 42, 43, 44, 45, 46, 47, 48, 49, 50, 51, 52, 53, 54] (by decide +kernel) (by decide +kernel)
set_option maxRecDepth 20000 in
theorem gX3_lose_X3_disks : GoodIn wsX3_lose (wsV RX3 163 RX3 yX3_disks wsX3_disks) := goodIn_app (goodIn_of _ (by decide +kernel)) ggX3_lose_X3_disks
set_option maxRecDepth 20000 in
theorem ggX3_lose_X3_within : GoodIn wsX3_lose wsX3_within := goodIn_r _ [19] (by decide +kernel) (by decide +kernel)
set_option maxRecDepth 20000 in
theorem gX3_lose_X3_within : GoodIn wsX3_lose (va_wsS RX3 70 yX3_within wsX3_within) := goodIn_app (goodIn_of _ (by decide +kernel)) ggX3_lose_X3_within
set_option maxRecDepth 20000 in
theorem ggX3_lose_X3_hasOut : GoodIn wsX3_lose wsX3_hasOut := goodIn_r _ [23, 3, 24, 31, 32, 33, 34, 35, 36, 37, 38, 39, 40, 41, 42, 43, 44, 45, 46, 47, 48, 49, 50, 51, 52, 53, 54] (by decide +kernel) (by decide +kernel)
set_option maxRecDepth 20000 in
theorem gX3_lose_X3_hasOut : GoodIn wsX3_lose (wsV RX3 154 RX3 yX3_hasOut wsX3_hasOut) := goodIn_app (goodIn_of _ (by decide +kernel)) ggX3_lose_X3_hasOut
set_option maxRecDepth 20000 in
theorem ggX3_lose_X3_empty : GoodIn wsX3_lose wsX3_empty := goodIn_r _ [28, 29, 30, 31, 32, 33, 34, 35, 36, 37, 38, 39, 40, 41, 42, 43, 44, 45, 46, 47, 48, 49, 50, 51, 52, 53, 54] (by decide +kernel) (by decide +kernel)
set_option maxRecDepth 20000 in
theorem gX3_lose_X3_empty : GoodIn wsX3_lose (wsV RX3 166 RX3 yX3_empty wsX3_empty) := goodIn_app (goodIn_of _ (by decide +kernel)) ggX3_lose_X3_empty
theorem dX3_lose_0 : decode cX3_lose 0 = .ok (.aload_n 0, 1) := by decide +kernel
theorem dX3_lose_1 : decode cX3_lose 1 = .ok (.invokevirtual 140, 3) := by decide +kernel
theorem dX3_lose_4 : decode cX3_lose 4 = .ok (.ifCond .ne 4, 3) := by decide +kernel
theorem dX3_lose_7 : decode cX3_lose 7 = .ok (.return_, 1) := by decide +kernel
theorem dX3_lose_8 : decode cX3_lose 8 = .ok (.iload_n 1, 1) := by decide +kernel
theorem dX3_lose_9 : decode cX3_lose 9 = .ok (.iconst 0, 1) := by decide +kernel
theorem dX3_lose_10 : decode cX3_lose 10 = .ok (.aload_n 0, 1) := by decide +kernel
theorem dX3_lose_11 : decode cX3_lose 11 = .ok (.invokevirtual 163, 3) := by decide +kernel
theorem dX3_lose_14 : decode cX3_lose 14 = .ok (.iconst 1, 1) := by decide +kernel
theorem dX3_lose_15 : decode cX3_lose 15 = .ok (.isub, 1) := by decide +kernel
theorem dX3_lose_16 : decode cX3_lose 16 = .ok (.invokestatic 70, 3) := by decide +kernel
theorem dX3_lose_19 : decode cX3_lose 19 = .ok (.ifCond .ne 11, 3) := by decide +kernel
theorem dX3_lose_22 : decode cX3_lose 22 = .ok (.aload_n 0, 1) := by decide +kernel
theorem dX3_lose_23 : decode cX3_lose 23 = .ok (.iconst 2, 1) := by decide +kernel
theorem dX3_lose_24 : decode cX3_lose 24 = .ok (.putfield 44, 3) := by decide +kernel
theorem dX3_lose_27 : decode cX3_lose 27 = .ok (.goto 35, 3) := by decide +kernel
theorem dX3_lose_30 : decode cX3_lose 30 = .ok (.aload_n 0, 1) := by decide +kernel
theorem dX3_lose_31 : decode cX3_lose 31 = .ok (.invokevirtual 154, 3) := by decide +kernel
theorem dX3_lose_34 : decode cX3_lose 34 = .ok (.ifCond .ne 10, 3) := by decide +kernel
theorem dX3_lose_37 : decode cX3_lose 37 = .ok (.aload_n 0, 1) := by decide +kernel
theorem dX3_lose_38 : decode cX3_lose 38 = .ok (.getfield 112, 3) := by decide +kernel
theorem dX3_lose_41 : decode cX3_lose 41 = .ok (.ifCond .eq 11, 3) := by decide +kernel
theorem dX3_lose_44 : decode cX3_lose 44 = .ok (.aload_n 0, 1) := by decide +kernel
theorem dX3_lose_45 : decode cX3_lose 45 = .ok (.iconst 3, 1) := by decide +kernel
theorem dX3_lose_46 : decode cX3_lose 46 = .ok (.putfield 44, 3) := by decide +kernel
theorem dX3_lose_49 : decode cX3_lose 49 = .ok (.goto 13, 3) := by decide +kernel
theorem dX3_lose_52 : decode cX3_lose 52 = .ok (.aload_n 0, 1) := by decide +kernel
theorem dX3_lose_53 : decode cX3_lose 53 = .ok (.iload_n 1, 1) := by decide +kernel
theorem dX3_lose_54 : decode cX3_lose 54 = .ok (.putfield 7, 3) := by decide +kernel
theorem dX3_lose_57 : decode cX3_lose 57 = .ok (.aload_n 0, 1) := by decide +kernel
theorem dX3_lose_58 : decode cX3_lose 58 = .ok (.iload_n 1, 1) := by decide +kernel
theorem dX3_lose_59 : decode cX3_lose 59 = .ok (.invokevirtual 166, 3) := by decide +kernel
theorem dX3_lose_62 : decode cX3_lose 62 = .ok (.return_, 1) := by decide +kernel
theorem dX3_empty_0 : decode cX3_empty 0 = .ok (.sipush 160, 3) := by decide +kernel
theorem dX3_empty_3 : decode cX3_empty 3 = .ok (.iload_n 1, 1) := by decide +kernel
theorem dX3_empty_4 : decode cX3_empty 4 = .ok (.imul, 1) := by decide +kernel
theorem dX3_empty_5 : decode cX3_empty 5 = .ok (.istore_n 2, 1) := by decide +kernel
theorem dX3_empty_6 : decode cX3_empty 6 = .ok (.iload_n 2, 1) := by decide +kernel
theorem dX3_empty_7 : decode cX3_empty 7 = .ok (.sipush 160, 3) := by decide +kernel
theorem dX3_empty_10 : decode cX3_empty 10 = .ok (.iload_n 1, 1) := by decide +kernel
theorem dX3_empty_11 : decode cX3_empty 11 = .ok (.imul, 1) := by decide +kernel
theorem dX3_empty_12 : decode cX3_empty 12 = .ok (.sipush 160, 3) := by decide +kernel
theorem dX3_empty_15 : decode cX3_empty 15 = .ok (.iadd, 1) := by decide +kernel
theorem dX3_empty_16 : decode cX3_empty 16 = .ok (.if_icmp .ge 16, 3) := by decide +kernel
theorem dX3_empty_19 : decode cX3_empty 19 = .ok (.aload_n 0, 1) := by decide +kernel
theorem dX3_empty_20 : decode cX3_empty 20 = .ok (.getfield 16, 3) := by decide +kernel
theorem dX3_empty_23 : decode cX3_empty 23 = .ok (.iload_n 2, 1) := by decide +kernel
theorem dX3_empty_24 : decode cX3_empty 24 = .ok (.iconst 0, 1) := by decide +kernel
theorem dX3_empty_25 : decode cX3_empty 25 = .ok (.iastore, 1) := by decide +kernel
theorem dX3_empty_26 : decode cX3_empty 26 = .ok (.iinc 2 1, 3) := by decide +kernel
theorem dX3_empty_29 : decode cX3_empty 29 = .ok (.goto (-23), 3) := by decide +kernel
theorem dX3_empty_32 : decode cX3_empty 32 = .ok (.bipush 10, 2) := by decide +kernel
theorem dX3_empty_34 : decode cX3_empty 34 = .ok (.iload_n 1, 1) := by decide +kernel
theorem dX3_empty_35 : decode cX3_empty 35 = .ok (.imul, 1) := by decide +kernel
theorem dX3_empty_36 : decode cX3_empty 36 = .ok (.istore_n 2, 1) := by decide +kernel
theorem dX3_empty_37 : decode cX3_empty 37 = .ok (.iload_n 2, 1) := by decide +kernel
theorem dX3_empty_38 : decode cX3_empty 38 = .ok (.bipush 10, 2) := by decide +kernel
theorem dX3_empty_40 : decode cX3_empty 40 = .ok (.iload_n 1, 1) := by decide +kernel
theorem dX3_empty_41 : decode cX3_empty 41 = .ok (.imul, 1) := by decide +kernel
theorem dX3_empty_42 : decode cX3_empty 42 = .ok (.bipush 10, 2) := by decide +kernel
theorem dX3_empty_44 : decode cX3_empty 44 = .ok (.iadd, 1) := by decide +kernel
theorem dX3_empty_45 : decode cX3_empty 45 = .ok (.if_icmp .ge 16, 3) := by decide +kernel
theorem dX3_empty_48 : decode cX3_empty 48 = .ok (.aload_n 0, 1) := by decide +kernel
theorem dX3_empty_49 : decode cX3_empty 49 = .ok (.getfield 20, 3) := by decide +kernel
theorem dX3_empty_52 : decode cX3_empty 52 = .ok (.iload_n 2, 1) := by decide +kernel
theorem dX3_empty_53 : decode cX3_empty 53 = .ok (.iconst 0, 1) := by decide +kernel
theorem dX3_empty_54 : decode cX3_empty 54 = .ok (.iastore, 1) := by decide +kernel
theorem dX3_empty_55 : decode cX3_empty 55 = .ok (.iinc 2 1, 3) := by decide +kernel
theorem dX3_empty_58 : decode cX3_empty 58 = .ok (.goto (-21), 3) := by decide +kernel
theorem dX3_empty_61 : decode cX3_empty 61 = .ok (.return_, 1) := by decide +kernel
set_option maxRecDepth 20000 in
theorem ggX3_replace_X3_works : GoodIn wsX3_replace wsX3_works := goodIn_r _ [7, 8, 9, 10, 15, 16, 17, 18, 19, 20, 21, 22, 23, 24, 25, 26, 27, 28, 29, 30, 31, 32, 33, 34, 35, 36, 37, 38] (by decide +kernel) (by decide +kernel)
set_option maxRecDepth 20000 in
theorem gX3_replace_X3_works : GoodIn wsX3_replace (wsV RX3 140 RX3 yX3_works wsX3_works) := goodIn_app (goodIn_of _ (by decide +kernel)) ggX3_replace_X3_works
set_option maxRecDepth 20000 in
theorem ggX3_replace_X3_fail : GoodIn wsX3_replace wsX3_fail := goodIn_r _ [14, 10, 15, 16, 17, 18, 19, 20, 21, 22, 23, 24, 25, 26, 27, 28, 29, 30, 31, 32, 33, 34, 35, 36, 37, 38] (by decide +kernel) (by decide +kernel)
set_option maxRecDepth 20000 in
theorem gX3_replace_X3_fail : GoodIn wsX3_replace (wsV RX3 125 RX3 yX3_fail wsX3_fail) := goodIn_app (goodIn_of _ (by decide +kernel)) ggX3_replace_X3_fail
theorem dX3_replace_0 : decode cX3_replace 0 = .ok (.aload_n 0, 1) := by decide +kernel
theorem dX3_replace_1 : decode cX3_replace 1 = .ok (.invokevirtual 140, 3) := by decide +kernel
theorem dX3_replace_4 : decode cX3_replace 4 = .ok (.ifCond .ne 5, 3) := by decide +kernel
theorem dX3_replace_7 : decode cX3_replace 7 = .ok (.iconst 0, 1) := by decide +kernel
theorem dX3_replace_8 : decode cX3_replace 8 = .ok (.ireturn, 1) := by decide +kernel
theorem dX3_replace_9 : decode cX3_replace 9 = .ok (.aload_n 0, 1) := by decide +kernel
theorem dX3_replace_10 : decode cX3_replace 10 = .ok (.getfield 7, 3) := by decide +kernel
theorem dX3_replace_13 : decode cX3_replace 13 = .ok (.ifCond .ge 9, 3) := by decide +kernel
theorem dX3_replace_16 : decode cX3_replace 16 = .ok (.aload_n 0, 1) := by decide +kernel
theorem dX3_replace_17 : decode cX3_replace 17 = .ok (.iconst 2, 1) := by decide +kernel
theorem dX3_replace_18 : decode cX3_replace 18 = .ok (.invokevirtual 125, 3) := by decide +kernel
theorem dX3_replace_21 : decode cX3_replace 21 = .ok (.ireturn, 1) := by decide +kernel
theorem dX3_replace_22 : decode cX3_replace 22 = .ok (.aload_n 0, 1) := by decide +kernel
theorem dX3_replace_23 : decode cX3_replace 23 = .ok (.aload_n 0, 1) := by decide +kernel
theorem dX3_replace_24 : decode cX3_replace 24 = .ok (.getfield 7, 3) := by decide +kernel
theorem dX3_replace_27 : decode cX3_replace 27 = .ok (.putfield 13, 3) := by decide +kernel
theorem dX3_replace_30 : decode cX3_replace 30 = .ok (.aload_n 0, 1) := by decide +kernel
theorem dX3_replace_31 : decode cX3_replace 31 = .ok (.iconst (-1), 1) := by decide +kernel
theorem dX3_replace_32 : decode cX3_replace 32 = .ok (.putfield 7, 3) := by decide +kernel
theorem dX3_replace_35 : decode cX3_replace 35 = .ok (.aload_n 0, 1) := by decide +kernel
theorem dX3_replace_36 : decode cX3_replace 36 = .ok (.getfield 13, 3) := by decide +kernel
theorem dX3_replace_39 : decode cX3_replace 39 = .ok (.ireturn, 1) := by decide +kernel
set_option maxRecDepth 20000 in
theorem ggX3_rebuild_X3_works : GoodIn wsX3_rebuild wsX3_works := goodIn_r _ [14, 15, 16, 17, 44, 45, 46, 47, 48, 49, 50, 51, 52, 53, 54, 55, 56, 57, 58, 59, 60, 61, 62, 63, 64, 65, 66, 67] (by decide +kernel) (by decide +kernel)
set_option maxRecDepth 20000 in
theorem gX3_rebuild_X3_works : GoodIn wsX3_rebuild (wsV RX3 140 RX3 yX3_works wsX3_works) := goodIn_app (goodIn_of _ (by decide +kernel)) ggX3_rebuild_X3_works
set_option maxRecDepth 20000 in
theorem ggX3_rebuild_X3_fail : GoodIn wsX3_rebuild wsX3_fail := goodIn_r _ [21, 17, 44, 45, 46, 47, 48, 49, 50, 51, 52, 53, 54, 55, 56, 57, 58, 59, 60, 61, 62, 63, 64, 65, 66, 67] (by decide +kernel) (by decide +kernel)
set_option maxRecDepth 20000 in
theorem gX3_rebuild_X3_fail : GoodIn wsX3_rebuild (wsV RX3 125 RX3 yX3_fail wsX3_fail) := goodIn_app (goodIn_of _ (by decide +kernel)) ggX3_rebuild_X3_fail
set_option maxRecDepth 20000 in
theorem ggX3_rebuild_X3_begin : GoodIn wsX3_rebuild wsX3_begin := goodIn_r _ [25, 26, 27, 44, 45, 46, 47, 48, 49, 50, 51, 52, 53, 54, 55, 56, 57, 58, 59, 60, 61, 62, 63, 64, 65, 66, 67] (by decide +kernel) (by decide +kernel)
set_option maxRecDepth 20000 in
theorem gX3_rebuild_X3_begin : GoodIn wsX3_rebuild (wsV RX3 129 RX3 yX3_begin wsX3_begin) := goodIn_app (goodIn_of _ (by decide +kernel)) ggX3_rebuild_X3_begin
set_option maxRecDepth 20000 in
theorem ggX3_rebuild_X3_widthOf : GoodIn wsX3_rebuild wsX3_widthOf := goodIn_r _ [31, 9, 3, 6, 44, 45, 46, 47, 48, 49, 50, 51, 52, 53, 54, 55, 56, 57, 58, 59, 60, 61, 62, 63, 64, 65, 66, 67] (by decide +kernel) (by decide +kernel)
set_option maxRecDepth 20000 in
theorem gX3_rebuild_X3_widthOf : GoodIn wsX3_rebuild (wsV RX3 169 RX3 yX3_widthOf wsX3_widthOf) := goodIn_app (goodIn_of _ (by decide +kernel)) ggX3_rebuild_X3_widthOf
set_option maxRecDepth 20000 in
theorem ggX3_rebuild_X3_wordOf : GoodIn wsX3_rebuild wsX3_wordOf := goodIn_r _ [35, 5, 36, 37, 38, 13, 39, 40, 1, 41, 42, 43, 44, 45, 46, 47, 48, 49, 50, 51, 52, 53, 54, 55, 56, 57, 58, 59, 60, 61, 62, 63, 64, 65, 66, 67] (by decide +kernel) (by decide +kernel)
set_option maxRecDepth 20000 in
theorem gX3_rebuild_X3_wordOf : GoodIn wsX3_rebuild (wsV RX3 95 RX3 yX3_wordOf wsX3_wordOf) := goodIn_app (goodIn_of _ (by decide +kernel)) ggX3_rebuild_X3_wordOf
set_option maxRecDepth 20000 in
theorem ggX3_rebuild_X3_at : GoodIn wsX3_rebuild wsX3_at := goodIn_r _ [43] (by decide +kernel) (by decide +kernel)
set_option maxRecDepth 20000 in
theorem gX3_rebuild_X3_at : GoodIn wsX3_rebuild (va_wsS RX3 78 yX3_at wsX3_at) := goodIn_app (goodIn_of _ (by decide +kernel)) ggX3_rebuild_X3_at
theorem dX3_rebuild_0 : decode cX3_rebuild 0 = .ok (.aload_n 0, 1) := by decide +kernel
theorem dX3_rebuild_1 : decode cX3_rebuild 1 = .ok (.invokevirtual 140, 3) := by decide +kernel
theorem dX3_rebuild_4 : decode cX3_rebuild 4 = .ok (.ifCond .ne 5, 3) := by decide +kernel
theorem dX3_rebuild_7 : decode cX3_rebuild 7 = .ok (.iconst 0, 1) := by decide +kernel
theorem dX3_rebuild_8 : decode cX3_rebuild 8 = .ok (.ireturn, 1) := by decide +kernel
theorem dX3_rebuild_9 : decode cX3_rebuild 9 = .ok (.aload_n 0, 1) := by decide +kernel
theorem dX3_rebuild_10 : decode cX3_rebuild 10 = .ok (.getfield 13, 3) := by decide +kernel
theorem dX3_rebuild_13 : decode cX3_rebuild 13 = .ok (.ifCond .ge 9, 3) := by decide +kernel
theorem dX3_rebuild_16 : decode cX3_rebuild 16 = .ok (.aload_n 0, 1) := by decide +kernel
theorem dX3_rebuild_17 : decode cX3_rebuild 17 = .ok (.iconst 2, 1) := by decide +kernel
theorem dX3_rebuild_18 : decode cX3_rebuild 18 = .ok (.invokevirtual 125, 3) := by decide +kernel
theorem dX3_rebuild_21 : decode cX3_rebuild 21 = .ok (.ireturn, 1) := by decide +kernel
theorem dX3_rebuild_22 : decode cX3_rebuild 22 = .ok (.aload_n 0, 1) := by decide +kernel
theorem dX3_rebuild_23 : decode cX3_rebuild 23 = .ok (.getfield 13, 3) := by decide +kernel
theorem dX3_rebuild_26 : decode cX3_rebuild 26 = .ok (.istore_n 1, 1) := by decide +kernel
theorem dX3_rebuild_27 : decode cX3_rebuild 27 = .ok (.aload_n 0, 1) := by decide +kernel
theorem dX3_rebuild_28 : decode cX3_rebuild 28 = .ok (.invokevirtual 129, 3) := by decide +kernel
theorem dX3_rebuild_31 : decode cX3_rebuild 31 = .ok (.iconst 0, 1) := by decide +kernel
theorem dX3_rebuild_32 : decode cX3_rebuild 32 = .ok (.istore_n 2, 1) := by decide +kernel
theorem dX3_rebuild_33 : decode cX3_rebuild 33 = .ok (.iload_n 2, 1) := by decide +kernel
theorem dX3_rebuild_34 : decode cX3_rebuild 34 = .ok (.bipush 32, 2) := by decide +kernel
theorem dX3_rebuild_36 : decode cX3_rebuild 36 = .ok (.if_icmp .ge 100, 3) := by decide +kernel
theorem dX3_rebuild_39 : decode cX3_rebuild 39 = .ok (.aload_n 0, 1) := by decide +kernel
theorem dX3_rebuild_40 : decode cX3_rebuild 40 = .ok (.iload_n 2, 1) := by decide +kernel
theorem dX3_rebuild_41 : decode cX3_rebuild 41 = .ok (.invokevirtual 169, 3) := by decide +kernel
theorem dX3_rebuild_44 : decode cX3_rebuild 44 = .ok (.istore_n 3, 1) := by decide +kernel
theorem dX3_rebuild_45 : decode cX3_rebuild 45 = .ok (.iload_n 1, 1) := by decide +kernel
theorem dX3_rebuild_46 : decode cX3_rebuild 46 = .ok (.iload_n 3, 1) := by decide +kernel
theorem dX3_rebuild_47 : decode cX3_rebuild 47 = .ok (.if_icmp .ge 83, 3) := by decide +kernel
theorem dX3_rebuild_50 : decode cX3_rebuild 50 = .ok (.aload_n 0, 1) := by decide +kernel
theorem dX3_rebuild_51 : decode cX3_rebuild 51 = .ok (.getfield 67, 3) := by decide +kernel
theorem dX3_rebuild_54 : decode cX3_rebuild 54 = .ok (.ifCond .eq 11, 3) := by decide +kernel
theorem dX3_rebuild_57 : decode cX3_rebuild 57 = .ok (.iload_n 2, 1) := by decide +kernel
theorem dX3_rebuild_58 : decode cX3_rebuild 58 = .ok (.aload_n 0, 1) := by decide +kernel
theorem dX3_rebuild_59 : decode cX3_rebuild 59 = .ok (.getfield 64, 3) := by decide +kernel
theorem dX3_rebuild_62 : decode cX3_rebuild 62 = .ok (.if_icmp .eq 68, 3) := by decide +kernel
theorem dX3_rebuild_65 : decode cX3_rebuild 65 = .ok (.iconst 0, 1) := by decide +kernel
theorem dX3_rebuild_66 : decode cX3_rebuild 66 = .ok (.istore 4, 2) := by decide +kernel
theorem dX3_rebuild_68 : decode cX3_rebuild 68 = .ok (.iload 4, 2) := by decide +kernel
theorem dX3_rebuild_70 : decode cX3_rebuild 70 = .ok (.iconst 4, 1) := by decide +kernel
theorem dX3_rebuild_71 : decode cX3_rebuild 71 = .ok (.if_icmp .ge 25, 3) := by decide +kernel
theorem dX3_rebuild_74 : decode cX3_rebuild 74 = .ok (.aload_n 0, 1) := by decide +kernel
theorem dX3_rebuild_75 : decode cX3_rebuild 75 = .ok (.getfield 38, 3) := by decide +kernel
theorem dX3_rebuild_78 : decode cX3_rebuild 78 = .ok (.iload 4, 2) := by decide +kernel
theorem dX3_rebuild_80 : decode cX3_rebuild 80 = .ok (.aload_n 0, 1) := by decide +kernel
theorem dX3_rebuild_81 : decode cX3_rebuild 81 = .ok (.iload_n 3, 1) := by decide +kernel
theorem dX3_rebuild_82 : decode cX3_rebuild 82 = .ok (.iload_n 1, 1) := by decide +kernel
theorem dX3_rebuild_83 : decode cX3_rebuild 83 = .ok (.iload_n 2, 1) := by decide +kernel
theorem dX3_rebuild_84 : decode cX3_rebuild 84 = .ok (.iload 4, 2) := by decide +kernel
theorem dX3_rebuild_86 : decode cX3_rebuild 86 = .ok (.invokevirtual 95, 3) := by decide +kernel
theorem dX3_rebuild_89 : decode cX3_rebuild 89 = .ok (.iastore, 1) := by decide +kernel
theorem dX3_rebuild_90 : decode cX3_rebuild 90 = .ok (.iinc 4 1, 3) := by decide +kernel
theorem dX3_rebuild_93 : decode cX3_rebuild 93 = .ok (.goto (-25), 3) := by decide +kernel
theorem dX3_rebuild_96 : decode cX3_rebuild 96 = .ok (.iconst 0, 1) := by decide +kernel
theorem dX3_rebuild_97 : decode cX3_rebuild 97 = .ok (.istore 4, 2) := by decide +kernel
theorem dX3_rebuild_99 : decode cX3_rebuild 99 = .ok (.iload 4, 2) := by decide +kernel
theorem dX3_rebuild_101 : decode cX3_rebuild 101 = .ok (.iconst 4, 1) := by decide +kernel
theorem dX3_rebuild_102 : decode cX3_rebuild 102 = .ok (.if_icmp .ge 28, 3) := by decide +kernel
theorem dX3_rebuild_105 : decode cX3_rebuild 105 = .ok (.aload_n 0, 1) := by decide +kernel
theorem dX3_rebuild_106 : decode cX3_rebuild 106 = .ok (.getfield 16, 3) := by decide +kernel
theorem dX3_rebuild_109 : decode cX3_rebuild 109 = .ok (.iload_n 1, 1) := by decide +kernel
theorem dX3_rebuild_110 : decode cX3_rebuild 110 = .ok (.iload_n 2, 1) := by decide +kernel
theorem dX3_rebuild_111 : decode cX3_rebuild 111 = .ok (.iload 4, 2) := by decide +kernel
theorem dX3_rebuild_113 : decode cX3_rebuild 113 = .ok (.invokestatic 78, 3) := by decide +kernel
theorem dX3_rebuild_116 : decode cX3_rebuild 116 = .ok (.aload_n 0, 1) := by decide +kernel
theorem dX3_rebuild_117 : decode cX3_rebuild 117 = .ok (.getfield 38, 3) := by decide +kernel
theorem dX3_rebuild_120 : decode cX3_rebuild 120 = .ok (.iload 4, 2) := by decide +kernel
theorem dX3_rebuild_122 : decode cX3_rebuild 122 = .ok (.iaload, 1) := by decide +kernel
theorem dX3_rebuild_123 : decode cX3_rebuild 123 = .ok (.iastore, 1) := by decide +kernel
theorem dX3_rebuild_124 : decode cX3_rebuild 124 = .ok (.iinc 4 1, 3) := by decide +kernel
theorem dX3_rebuild_127 : decode cX3_rebuild 127 = .ok (.goto (-28), 3) := by decide +kernel
theorem dX3_rebuild_130 : decode cX3_rebuild 130 = .ok (.iinc 2 1, 3) := by decide +kernel
theorem dX3_rebuild_133 : decode cX3_rebuild 133 = .ok (.goto (-100), 3) := by decide +kernel
theorem dX3_rebuild_136 : decode cX3_rebuild 136 = .ok (.iconst 0, 1) := by decide +kernel
theorem dX3_rebuild_137 : decode cX3_rebuild 137 = .ok (.istore_n 2, 1) := by decide +kernel
theorem dX3_rebuild_138 : decode cX3_rebuild 138 = .ok (.iload_n 2, 1) := by decide +kernel
theorem dX3_rebuild_139 : decode cX3_rebuild 139 = .ok (.aload_n 0, 1) := by decide +kernel
theorem dX3_rebuild_140 : decode cX3_rebuild 140 = .ok (.getfield 57, 3) := by decide +kernel
theorem dX3_rebuild_143 : decode cX3_rebuild 143 = .ok (.if_icmp .ge 80, 3) := by decide +kernel
theorem dX3_rebuild_146 : decode cX3_rebuild 146 = .ok (.aload_n 0, 1) := by decide +kernel
theorem dX3_rebuild_147 : decode cX3_rebuild 147 = .ok (.getfield 67, 3) := by decide +kernel
theorem dX3_rebuild_150 : decode cX3_rebuild 150 = .ok (.ifCond .eq 73, 3) := by decide +kernel
theorem dX3_rebuild_153 : decode cX3_rebuild 153 = .ok (.iload_n 1, 1) := by decide +kernel
theorem dX3_rebuild_154 : decode cX3_rebuild 154 = .ok (.ifCond .eq 11, 3) := by decide +kernel
theorem dX3_rebuild_157 : decode cX3_rebuild 157 = .ok (.iload_n 1, 1) := by decide +kernel
theorem dX3_rebuild_158 : decode cX3_rebuild 158 = .ok (.aload_n 0, 1) := by decide +kernel
theorem dX3_rebuild_159 : decode cX3_rebuild 159 = .ok (.getfield 57, 3) := by decide +kernel
theorem dX3_rebuild_162 : decode cX3_rebuild 162 = .ok (.if_icmp .ne 61, 3) := by decide +kernel
theorem dX3_rebuild_165 : decode cX3_rebuild 165 = .ok (.iconst 0, 1) := by decide +kernel
theorem dX3_rebuild_166 : decode cX3_rebuild 166 = .ok (.istore_n 3, 1) := by decide +kernel
theorem dX3_rebuild_167 : decode cX3_rebuild 167 = .ok (.iload_n 3, 1) := by decide +kernel
theorem dX3_rebuild_168 : decode cX3_rebuild 168 = .ok (.iconst 4, 1) := by decide +kernel
theorem dX3_rebuild_169 : decode cX3_rebuild 169 = .ok (.if_icmp .ge 48, 3) := by decide +kernel
theorem dX3_rebuild_172 : decode cX3_rebuild 172 = .ok (.aload_n 0, 1) := by decide +kernel
theorem dX3_rebuild_173 : decode cX3_rebuild 173 = .ok (.getfield 16, 3) := by decide +kernel
theorem dX3_rebuild_176 : decode cX3_rebuild 176 = .ok (.iload_n 1, 1) := by decide +kernel
theorem dX3_rebuild_177 : decode cX3_rebuild 177 = .ok (.bipush 32, 2) := by decide +kernel
theorem dX3_rebuild_179 : decode cX3_rebuild 179 = .ok (.iload_n 2, 1) := by decide +kernel
theorem dX3_rebuild_180 : decode cX3_rebuild 180 = .ok (.iadd, 1) := by decide +kernel
theorem dX3_rebuild_181 : decode cX3_rebuild 181 = .ok (.iload_n 3, 1) := by decide +kernel
theorem dX3_rebuild_182 : decode cX3_rebuild 182 = .ok (.invokestatic 78, 3) := by decide +kernel
theorem dX3_rebuild_185 : decode cX3_rebuild 185 = .ok (.aload_n 0, 1) := by decide +kernel
theorem dX3_rebuild_186 : decode cX3_rebuild 186 = .ok (.getfield 16, 3) := by decide +kernel
theorem dX3_rebuild_189 : decode cX3_rebuild 189 = .ok (.iload_n 1, 1) := by decide +kernel
theorem dX3_rebuild_190 : decode cX3_rebuild 190 = .ok (.ifCond .ne 10, 3) := by decide +kernel
theorem dX3_rebuild_193 : decode cX3_rebuild 193 = .ok (.aload_n 0, 1) := by decide +kernel
theorem dX3_rebuild_194 : decode cX3_rebuild 194 = .ok (.getfield 57, 3) := by decide +kernel
theorem dX3_rebuild_197 : decode cX3_rebuild 197 = .ok (.goto 4, 3) := by decide +kernel
theorem dX3_rebuild_200 : decode cX3_rebuild 200 = .ok (.iconst 0, 1) := by decide +kernel
theorem dX3_rebuild_201 : decode cX3_rebuild 201 = .ok (.bipush 32, 2) := by decide +kernel
theorem dX3_rebuild_203 : decode cX3_rebuild 203 = .ok (.iload_n 2, 1) := by decide +kernel
theorem dX3_rebuild_204 : decode cX3_rebuild 204 = .ok (.iadd, 1) := by decide +kernel
theorem dX3_rebuild_205 : decode cX3_rebuild 205 = .ok (.iload_n 3, 1) := by decide +kernel
theorem dX3_rebuild_206 : decode cX3_rebuild 206 = .ok (.invokestatic 78, 3) := by decide +kernel
theorem dX3_rebuild_209 : decode cX3_rebuild 209 = .ok (.iaload, 1) := by decide +kernel
theorem dX3_rebuild_210 : decode cX3_rebuild 210 = .ok (.iastore, 1) := by decide +kernel
theorem dX3_rebuild_211 : decode cX3_rebuild 211 = .ok (.iinc 3 1, 3) := by decide +kernel
theorem dX3_rebuild_214 : decode cX3_rebuild 214 = .ok (.goto (-47), 3) := by decide +kernel
theorem dX3_rebuild_217 : decode cX3_rebuild 217 = .ok (.iinc 2 1, 3) := by decide +kernel
theorem dX3_rebuild_220 : decode cX3_rebuild 220 = .ok (.goto (-82), 3) := by decide +kernel
theorem dX3_rebuild_223 : decode cX3_rebuild 223 = .ok (.aload_n 0, 1) := by decide +kernel
theorem dX3_rebuild_224 : decode cX3_rebuild 224 = .ok (.getfield 106, 3) := by decide +kernel
theorem dX3_rebuild_227 : decode cX3_rebuild 227 = .ok (.iconst 2, 1) := by decide +kernel
theorem dX3_rebuild_228 : decode cX3_rebuild 228 = .ok (.irem, 1) := by decide +kernel
theorem dX3_rebuild_229 : decode cX3_rebuild 229 = .ok (.istore_n 2, 1) := by decide +kernel
theorem dX3_rebuild_230 : decode cX3_rebuild 230 = .ok (.aload_n 0, 1) := by decide +kernel
theorem dX3_rebuild_231 : decode cX3_rebuild 231 = .ok (.getfield 20, 3) := by decide +kernel
theorem dX3_rebuild_234 : decode cX3_rebuild 234 = .ok (.bipush 10, 2) := by decide +kernel
theorem dX3_rebuild_236 : decode cX3_rebuild 236 = .ok (.iload_n 1, 1) := by decide +kernel
theorem dX3_rebuild_237 : decode cX3_rebuild 237 = .ok (.imul, 1) := by decide +kernel
theorem dX3_rebuild_238 : decode cX3_rebuild 238 = .ok (.iconst 5, 1) := by decide +kernel
theorem dX3_rebuild_239 : decode cX3_rebuild 239 = .ok (.iload_n 2, 1) := by decide +kernel
theorem dX3_rebuild_240 : decode cX3_rebuild 240 = .ok (.imul, 1) := by decide +kernel
theorem dX3_rebuild_241 : decode cX3_rebuild 241 = .ok (.iadd, 1) := by decide +kernel
theorem dX3_rebuild_242 : decode cX3_rebuild 242 = .ok (.aload_n 0, 1) := by decide +kernel
theorem dX3_rebuild_243 : decode cX3_rebuild 243 = .ok (.getfield 106, 3) := by decide +kernel
theorem dX3_rebuild_246 : decode cX3_rebuild 246 = .ok (.iastore, 1) := by decide +kernel
theorem dX3_rebuild_247 : decode cX3_rebuild 247 = .ok (.aload_n 0, 1) := by decide +kernel
theorem dX3_rebuild_248 : decode cX3_rebuild 248 = .ok (.getfield 20, 3) := by decide +kernel
theorem dX3_rebuild_251 : decode cX3_rebuild 251 = .ok (.bipush 10, 2) := by decide +kernel
theorem dX3_rebuild_253 : decode cX3_rebuild 253 = .ok (.iload_n 1, 1) := by decide +kernel
theorem dX3_rebuild_254 : decode cX3_rebuild 254 = .ok (.imul, 1) := by decide +kernel
theorem dX3_rebuild_255 : decode cX3_rebuild 255 = .ok (.iconst 5, 1) := by decide +kernel
theorem dX3_rebuild_256 : decode cX3_rebuild 256 = .ok (.iload_n 2, 1) := by decide +kernel
theorem dX3_rebuild_257 : decode cX3_rebuild 257 = .ok (.imul, 1) := by decide +kernel
theorem dX3_rebuild_258 : decode cX3_rebuild 258 = .ok (.iadd, 1) := by decide +kernel
theorem dX3_rebuild_259 : decode cX3_rebuild 259 = .ok (.iconst 1, 1) := by decide +kernel
theorem dX3_rebuild_260 : decode cX3_rebuild 260 = .ok (.iadd, 1) := by decide +kernel
theorem dX3_rebuild_261 : decode cX3_rebuild 261 = .ok (.aload_n 0, 1) := by decide +kernel
theorem dX3_rebuild_262 : decode cX3_rebuild 262 = .ok (.getfield 57, 3) := by decide +kernel
theorem dX3_rebuild_265 : decode cX3_rebuild 265 = .ok (.iastore, 1) := by decide +kernel
theorem dX3_rebuild_266 : decode cX3_rebuild 266 = .ok (.aload_n 0, 1) := by decide +kernel
theorem dX3_rebuild_267 : decode cX3_rebuild 267 = .ok (.getfield 20, 3) := by decide +kernel
theorem dX3_rebuild_270 : decode cX3_rebuild 270 = .ok (.bipush 10, 2) := by decide +kernel
theorem dX3_rebuild_272 : decode cX3_rebuild 272 = .ok (.iload_n 1, 1) := by decide +kernel
theorem dX3_rebuild_273 : decode cX3_rebuild 273 = .ok (.imul, 1) := by decide +kernel
theorem dX3_rebuild_274 : decode cX3_rebuild 274 = .ok (.iconst 5, 1) := by decide +kernel
theorem dX3_rebuild_275 : decode cX3_rebuild 275 = .ok (.iload_n 2, 1) := by decide +kernel
theorem dX3_rebuild_276 : decode cX3_rebuild 276 = .ok (.imul, 1) := by decide +kernel
theorem dX3_rebuild_277 : decode cX3_rebuild 277 = .ok (.iadd, 1) := by decide +kernel
theorem dX3_rebuild_278 : decode cX3_rebuild 278 = .ok (.iconst 2, 1) := by decide +kernel
theorem dX3_rebuild_279 : decode cX3_rebuild 279 = .ok (.iadd, 1) := by decide +kernel
theorem dX3_rebuild_280 : decode cX3_rebuild 280 = .ok (.aload_n 0, 1) := by decide +kernel
theorem dX3_rebuild_281 : decode cX3_rebuild 281 = .ok (.getfield 54, 3) := by decide +kernel
theorem dX3_rebuild_284 : decode cX3_rebuild 284 = .ok (.ifCond .eq 7, 3) := by decide +kernel
theorem dX3_rebuild_287 : decode cX3_rebuild 287 = .ok (.iconst 1, 1) := by decide +kernel
theorem dX3_rebuild_288 : decode cX3_rebuild 288 = .ok (.goto 4, 3) := by decide +kernel
theorem dX3_rebuild_291 : decode cX3_rebuild 291 = .ok (.iconst 0, 1) := by decide +kernel
theorem dX3_rebuild_292 : decode cX3_rebuild 292 = .ok (.iastore, 1) := by decide +kernel
theorem dX3_rebuild_293 : decode cX3_rebuild 293 = .ok (.aload_n 0, 1) := by decide +kernel
theorem dX3_rebuild_294 : decode cX3_rebuild 294 = .ok (.getfield 20, 3) := by decide +kernel
theorem dX3_rebuild_297 : decode cX3_rebuild 297 = .ok (.bipush 10, 2) := by decide +kernel
theorem dX3_rebuild_299 : decode cX3_rebuild 299 = .ok (.iload_n 1, 1) := by decide +kernel
theorem dX3_rebuild_300 : decode cX3_rebuild 300 = .ok (.imul, 1) := by decide +kernel
theorem dX3_rebuild_301 : decode cX3_rebuild 301 = .ok (.iconst 5, 1) := by decide +kernel
theorem dX3_rebuild_302 : decode cX3_rebuild 302 = .ok (.iload_n 2, 1) := by decide +kernel
theorem dX3_rebuild_303 : decode cX3_rebuild 303 = .ok (.imul, 1) := by decide +kernel
theorem dX3_rebuild_304 : decode cX3_rebuild 304 = .ok (.iadd, 1) := by decide +kernel
theorem dX3_rebuild_305 : decode cX3_rebuild 305 = .ok (.iconst 3, 1) := by decide +kernel
theorem dX3_rebuild_306 : decode cX3_rebuild 306 = .ok (.iadd, 1) := by decide +kernel
theorem dX3_rebuild_307 : decode cX3_rebuild 307 = .ok (.aload_n 0, 1) := by decide +kernel
theorem dX3_rebuild_308 : decode cX3_rebuild 308 = .ok (.getfield 64, 3) := by decide +kernel
theorem dX3_rebuild_311 : decode cX3_rebuild 311 = .ok (.iastore, 1) := by decide +kernel
theorem dX3_rebuild_312 : decode cX3_rebuild 312 = .ok (.aload_n 0, 1) := by decide +kernel
theorem dX3_rebuild_313 : decode cX3_rebuild 313 = .ok (.getfield 20, 3) := by decide +kernel
theorem dX3_rebuild_316 : decode cX3_rebuild 316 = .ok (.bipush 10, 2) := by decide +kernel
theorem dX3_rebuild_318 : decode cX3_rebuild 318 = .ok (.iload_n 1, 1) := by decide +kernel
theorem dX3_rebuild_319 : decode cX3_rebuild 319 = .ok (.imul, 1) := by decide +kernel
theorem dX3_rebuild_320 : decode cX3_rebuild 320 = .ok (.iconst 5, 1) := by decide +kernel
theorem dX3_rebuild_321 : decode cX3_rebuild 321 = .ok (.iload_n 2, 1) := by decide +kernel
theorem dX3_rebuild_322 : decode cX3_rebuild 322 = .ok (.imul, 1) := by decide +kernel
theorem dX3_rebuild_323 : decode cX3_rebuild 323 = .ok (.iadd, 1) := by decide +kernel
theorem dX3_rebuild_324 : decode cX3_rebuild 324 = .ok (.iconst 4, 1) := by decide +kernel
theorem dX3_rebuild_325 : decode cX3_rebuild 325 = .ok (.iadd, 1) := by decide +kernel
theorem dX3_rebuild_326 : decode cX3_rebuild 326 = .ok (.aload_n 0, 1) := by decide +kernel
theorem dX3_rebuild_327 : decode cX3_rebuild 327 = .ok (.getfield 67, 3) := by decide +kernel
theorem dX3_rebuild_330 : decode cX3_rebuild 330 = .ok (.ifCond .eq 7, 3) := by decide +kernel
theorem dX3_rebuild_333 : decode cX3_rebuild 333 = .ok (.iconst 1, 1) := by decide +kernel
theorem dX3_rebuild_334 : decode cX3_rebuild 334 = .ok (.goto 4, 3) := by decide +kernel
theorem dX3_rebuild_337 : decode cX3_rebuild 337 = .ok (.iconst 0, 1) := by decide +kernel
theorem dX3_rebuild_338 : decode cX3_rebuild 338 = .ok (.iastore, 1) := by decide +kernel
theorem dX3_rebuild_339 : decode cX3_rebuild 339 = .ok (.aload_n 0, 1) := by decide +kernel
theorem dX3_rebuild_340 : decode cX3_rebuild 340 = .ok (.iconst (-1), 1) := by decide +kernel
theorem dX3_rebuild_341 : decode cX3_rebuild 341 = .ok (.putfield 13, 3) := by decide +kernel
theorem dX3_rebuild_344 : decode cX3_rebuild 344 = .ok (.iload_n 1, 1) := by decide +kernel
theorem dX3_rebuild_345 : decode cX3_rebuild 345 = .ok (.ireturn, 1) := by decide +kernel
set_option maxRecDepth 20000 in
theorem ggX3_crash_X3_works : GoodIn wsX3_crash wsX3_works := goodIn_r _ [9, 10, 11, 1, 18, 19, 20, 21, 22, 23, 24, 25, 26, 27, 28, 29, 30, 31, 32, 33, 34, 35, 36, 37, 38, 39, 40, 41] (by decide +kernel) (by decide +kernel)
set_option maxRecDepth 20000 in
theorem gX3_crash_X3_works : GoodIn wsX3_crash (wsV RX3 140 RX3 yX3_works wsX3_works) := goodIn_app (goodIn_of _ (by decide +kernel)) ggX3_crash_X3_works
set_option maxRecDepth 20000 in
theorem ggX3_crash_X3_hasOut : GoodIn wsX3_crash wsX3_hasOut := goodIn_r _ [15, 16, 17, 18, 19, 20, 21, 22, 23, 24, 25, 26, 27, 28, 29, 30, 31, 32, 33, 34, 35, 36, 37, 38, 39, 40, 41] (by decide +kernel) (by decide +kernel)
set_option maxRecDepth 20000 in
theorem gX3_crash_X3_hasOut : GoodIn wsX3_crash (wsV RX3 154 RX3 yX3_hasOut wsX3_hasOut) := goodIn_app (goodIn_of _ (by decide +kernel)) ggX3_crash_X3_hasOut
theorem dX3_crash_0 : decode cX3_crash 0 = .ok (.aload_n 0, 1) := by decide +kernel
theorem dX3_crash_1 : decode cX3_crash 1 = .ok (.invokevirtual 140, 3) := by decide +kernel
theorem dX3_crash_4 : decode cX3_crash 4 = .ok (.ifCond .ne 4, 3) := by decide +kernel
theorem dX3_crash_7 : decode cX3_crash 7 = .ok (.return_, 1) := by decide +kernel
theorem dX3_crash_8 : decode cX3_crash 8 = .ok (.iload_n 1, 1) := by decide +kernel
theorem dX3_crash_9 : decode cX3_crash 9 = .ok (.iconst 1, 1) := by decide +kernel
theorem dX3_crash_10 : decode cX3_crash 10 = .ok (.if_icmp .lt 10, 3) := by decide +kernel
theorem dX3_crash_13 : decode cX3_crash 13 = .ok (.aload_n 0, 1) := by decide +kernel
theorem dX3_crash_14 : decode cX3_crash 14 = .ok (.invokevirtual 154, 3) := by decide +kernel
theorem dX3_crash_17 : decode cX3_crash 17 = .ok (.ifCond .eq 9, 3) := by decide +kernel
theorem dX3_crash_20 : decode cX3_crash 20 = .ok (.aload_n 0, 1) := by decide +kernel
theorem dX3_crash_21 : decode cX3_crash 21 = .ok (.iconst 2, 1) := by decide +kernel
theorem dX3_crash_22 : decode cX3_crash 22 = .ok (.putfield 44, 3) := by decide +kernel
theorem dX3_crash_25 : decode cX3_crash 25 = .ok (.return_, 1) := by decide +kernel
theorem dX3_crash_26 : decode cX3_crash 26 = .ok (.aload_n 0, 1) := by decide +kernel
theorem dX3_crash_27 : decode cX3_crash 27 = .ok (.iconst 1, 1) := by decide +kernel
theorem dX3_crash_28 : decode cX3_crash 28 = .ok (.putfield 112, 3) := by decide +kernel
theorem dX3_crash_31 : decode cX3_crash 31 = .ok (.aload_n 0, 1) := by decide +kernel
theorem dX3_crash_32 : decode cX3_crash 32 = .ok (.iload_n 1, 1) := by decide +kernel
theorem dX3_crash_33 : decode cX3_crash 33 = .ok (.putfield 115, 3) := by decide +kernel
theorem dX3_crash_36 : decode cX3_crash 36 = .ok (.aload_n 0, 1) := by decide +kernel
theorem dX3_crash_37 : decode cX3_crash 37 = .ok (.iload_n 2, 1) := by decide +kernel
theorem dX3_crash_38 : decode cX3_crash 38 = .ok (.putfield 118, 3) := by decide +kernel
theorem dX3_crash_41 : decode cX3_crash 41 = .ok (.return_, 1) := by decide +kernel
set_option maxRecDepth 20000 in
theorem ggX3_isRight_X3_at : GoodIn wsX3_isRight wsX3_at := goodIn_r _ [5] (by decide +kernel) (by decide +kernel)
set_option maxRecDepth 20000 in
theorem gX3_isRight_X3_at : GoodIn wsX3_isRight (va_wsS RX3 78 yX3_at wsX3_at) := goodIn_app (goodIn_of _ (by decide +kernel)) ggX3_isRight_X3_at
theorem dX3_isRight_0 : decode cX3_isRight 0 = .ok (.iconst 1, 1) := by decide +kernel
theorem dX3_isRight_1 : decode cX3_isRight 1 = .ok (.istore_n 3, 1) := by decide +kernel
theorem dX3_isRight_2 : decode cX3_isRight 2 = .ok (.iconst 0, 1) := by decide +kernel
theorem dX3_isRight_3 : decode cX3_isRight 3 = .ok (.istore 4, 2) := by decide +kernel
theorem dX3_isRight_5 : decode cX3_isRight 5 = .ok (.iload 4, 2) := by decide +kernel
theorem dX3_isRight_7 : decode cX3_isRight 7 = .ok (.iconst 4, 1) := by decide +kernel
theorem dX3_isRight_8 : decode cX3_isRight 8 = .ok (.if_icmp .ge 60, 3) := by decide +kernel
theorem dX3_isRight_11 : decode cX3_isRight 11 = .ok (.iconst 0, 1) := by decide +kernel
theorem dX3_isRight_12 : decode cX3_isRight 12 = .ok (.istore 5, 2) := by decide +kernel
theorem dX3_isRight_14 : decode cX3_isRight 14 = .ok (.iconst 0, 1) := by decide +kernel
theorem dX3_isRight_15 : decode cX3_isRight 15 = .ok (.istore 6, 2) := by decide +kernel
theorem dX3_isRight_17 : decode cX3_isRight 17 = .ok (.iload 6, 2) := by decide +kernel
theorem dX3_isRight_19 : decode cX3_isRight 19 = .ok (.iload_n 1, 1) := by decide +kernel
theorem dX3_isRight_20 : decode cX3_isRight 20 = .ok (.if_icmp .ge 27, 3) := by decide +kernel
theorem dX3_isRight_23 : decode cX3_isRight 23 = .ok (.iload 5, 2) := by decide +kernel
theorem dX3_isRight_25 : decode cX3_isRight 25 = .ok (.aload_n 0, 1) := by decide +kernel
theorem dX3_isRight_26 : decode cX3_isRight 26 = .ok (.getfield 16, 3) := by decide +kernel
theorem dX3_isRight_29 : decode cX3_isRight 29 = .ok (.iload 6, 2) := by decide +kernel
theorem dX3_isRight_31 : decode cX3_isRight 31 = .ok (.iload_n 2, 1) := by decide +kernel
theorem dX3_isRight_32 : decode cX3_isRight 32 = .ok (.iload 4, 2) := by decide +kernel
theorem dX3_isRight_34 : decode cX3_isRight 34 = .ok (.invokestatic 78, 3) := by decide +kernel
theorem dX3_isRight_37 : decode cX3_isRight 37 = .ok (.iaload, 1) := by decide +kernel
theorem dX3_isRight_38 : decode cX3_isRight 38 = .ok (.ixor, 1) := by decide +kernel
theorem dX3_isRight_39 : decode cX3_isRight 39 = .ok (.istore 5, 2) := by decide +kernel
theorem dX3_isRight_41 : decode cX3_isRight 41 = .ok (.iinc 6 1, 3) := by decide +kernel
theorem dX3_isRight_44 : decode cX3_isRight 44 = .ok (.goto (-27), 3) := by decide +kernel
theorem dX3_isRight_47 : decode cX3_isRight 47 = .ok (.iload_n 3, 1) := by decide +kernel
theorem dX3_isRight_48 : decode cX3_isRight 48 = .ok (.ifCond .eq 12, 3) := by decide +kernel
theorem dX3_isRight_51 : decode cX3_isRight 51 = .ok (.iload 5, 2) := by decide +kernel
theorem dX3_isRight_53 : decode cX3_isRight 53 = .ok (.ifCond .ne 7, 3) := by decide +kernel
theorem dX3_isRight_56 : decode cX3_isRight 56 = .ok (.iconst 1, 1) := by decide +kernel
theorem dX3_isRight_57 : decode cX3_isRight 57 = .ok (.goto 4, 3) := by decide +kernel
theorem dX3_isRight_60 : decode cX3_isRight 60 = .ok (.iconst 0, 1) := by decide +kernel
theorem dX3_isRight_61 : decode cX3_isRight 61 = .ok (.istore_n 3, 1) := by decide +kernel
theorem dX3_isRight_62 : decode cX3_isRight 62 = .ok (.iinc 4 1, 3) := by decide +kernel
theorem dX3_isRight_65 : decode cX3_isRight 65 = .ok (.goto (-60), 3) := by decide +kernel
theorem dX3_isRight_68 : decode cX3_isRight 68 = .ok (.iload_n 3, 1) := by decide +kernel
theorem dX3_isRight_69 : decode cX3_isRight 69 = .ok (.ireturn, 1) := by decide +kernel
set_option maxRecDepth 20000 in
theorem ggX3_mend_X3_parityDisk : GoodIn wsX3_mend wsX3_parityDisk := goodIn_r _ [5] (by decide +kernel) (by decide +kernel)
set_option maxRecDepth 20000 in
theorem gX3_mend_X3_parityDisk : GoodIn wsX3_mend (va_wsS RX3 60 yX3_parityDisk wsX3_parityDisk) := goodIn_app (goodIn_of _ (by decide +kernel)) ggX3_mend_X3_parityDisk
set_option maxRecDepth 20000 in
theorem ggX3_mend_X3_at : GoodIn wsX3_mend wsX3_at := goodIn_r _ [8] (by decide +kernel) (by decide +kernel)
set_option maxRecDepth 20000 in
theorem gX3_mend_X3_at : GoodIn wsX3_mend (va_wsS RX3 78 yX3_at wsX3_at) := goodIn_app (goodIn_of _ (by decide +kernel)) ggX3_mend_X3_at
theorem dX3_mend_0 : decode cX3_mend 0 = .ok (.iload_n 1, 1) := by decide +kernel
theorem dX3_mend_1 : decode cX3_mend 1 = .ok (.iload_n 2, 1) := by decide +kernel
theorem dX3_mend_2 : decode cX3_mend 2 = .ok (.invokestatic 60, 3) := by decide +kernel
theorem dX3_mend_5 : decode cX3_mend 5 = .ok (.istore_n 3, 1) := by decide +kernel
theorem dX3_mend_6 : decode cX3_mend 6 = .ok (.iconst 0, 1) := by decide +kernel
theorem dX3_mend_7 : decode cX3_mend 7 = .ok (.istore 4, 2) := by decide +kernel
theorem dX3_mend_9 : decode cX3_mend 9 = .ok (.iload 4, 2) := by decide +kernel
theorem dX3_mend_11 : decode cX3_mend 11 = .ok (.iconst 4, 1) := by decide +kernel
theorem dX3_mend_12 : decode cX3_mend 12 = .ok (.if_icmp .ge 70, 3) := by decide +kernel
theorem dX3_mend_15 : decode cX3_mend 15 = .ok (.iconst 0, 1) := by decide +kernel
theorem dX3_mend_16 : decode cX3_mend 16 = .ok (.istore 5, 2) := by decide +kernel
theorem dX3_mend_18 : decode cX3_mend 18 = .ok (.iconst 0, 1) := by decide +kernel
theorem dX3_mend_19 : decode cX3_mend 19 = .ok (.istore 6, 2) := by decide +kernel
theorem dX3_mend_21 : decode cX3_mend 21 = .ok (.iload 6, 2) := by decide +kernel
theorem dX3_mend_23 : decode cX3_mend 23 = .ok (.iload_n 1, 1) := by decide +kernel
theorem dX3_mend_24 : decode cX3_mend 24 = .ok (.if_icmp .ge 38, 3) := by decide +kernel
theorem dX3_mend_27 : decode cX3_mend 27 = .ok (.iload 6, 2) := by decide +kernel
theorem dX3_mend_29 : decode cX3_mend 29 = .ok (.iload_n 3, 1) := by decide +kernel
theorem dX3_mend_30 : decode cX3_mend 30 = .ok (.if_icmp .ne 8, 3) := by decide +kernel
theorem dX3_mend_33 : decode cX3_mend 33 = .ok (.iload 5, 2) := by decide +kernel
theorem dX3_mend_35 : decode cX3_mend 35 = .ok (.goto 19, 3) := by decide +kernel
theorem dX3_mend_38 : decode cX3_mend 38 = .ok (.iload 5, 2) := by decide +kernel
theorem dX3_mend_40 : decode cX3_mend 40 = .ok (.aload_n 0, 1) := by decide +kernel
theorem dX3_mend_41 : decode cX3_mend 41 = .ok (.getfield 16, 3) := by decide +kernel
theorem dX3_mend_44 : decode cX3_mend 44 = .ok (.iload 6, 2) := by decide +kernel
theorem dX3_mend_46 : decode cX3_mend 46 = .ok (.iload_n 2, 1) := by decide +kernel
theorem dX3_mend_47 : decode cX3_mend 47 = .ok (.iload 4, 2) := by decide +kernel
theorem dX3_mend_49 : decode cX3_mend 49 = .ok (.invokestatic 78, 3) := by decide +kernel
theorem dX3_mend_52 : decode cX3_mend 52 = .ok (.iaload, 1) := by decide +kernel
theorem dX3_mend_53 : decode cX3_mend 53 = .ok (.ixor, 1) := by decide +kernel
theorem dX3_mend_54 : decode cX3_mend 54 = .ok (.istore 5, 2) := by decide +kernel
theorem dX3_mend_56 : decode cX3_mend 56 = .ok (.iinc 6 1, 3) := by decide +kernel
theorem dX3_mend_59 : decode cX3_mend 59 = .ok (.goto (-38), 3) := by decide +kernel
theorem dX3_mend_62 : decode cX3_mend 62 = .ok (.aload_n 0, 1) := by decide +kernel
theorem dX3_mend_63 : decode cX3_mend 63 = .ok (.getfield 16, 3) := by decide +kernel
theorem dX3_mend_66 : decode cX3_mend 66 = .ok (.iload_n 3, 1) := by decide +kernel
theorem dX3_mend_67 : decode cX3_mend 67 = .ok (.iload_n 2, 1) := by decide +kernel
theorem dX3_mend_68 : decode cX3_mend 68 = .ok (.iload 4, 2) := by decide +kernel
theorem dX3_mend_70 : decode cX3_mend 70 = .ok (.invokestatic 78, 3) := by decide +kernel
theorem dX3_mend_73 : decode cX3_mend 73 = .ok (.iload 5, 2) := by decide +kernel
theorem dX3_mend_75 : decode cX3_mend 75 = .ok (.iastore, 1) := by decide +kernel
theorem dX3_mend_76 : decode cX3_mend 76 = .ok (.iinc 4 1, 3) := by decide +kernel
theorem dX3_mend_79 : decode cX3_mend 79 = .ok (.goto (-70), 3) := by decide +kernel
theorem dX3_mend_82 : decode cX3_mend 82 = .ok (.return_, 1) := by decide +kernel
set_option maxRecDepth 20000 in
theorem ggX3_start_X3_fail : GoodIn wsX3_start wsX3_fail := goodIn_r _ [14, 1, 30, 31, 32, 33, 34, 35, 36, 37, 38, 39, 40, 41, 42, 43, 44, 45, 46, 47, 48, 49, 50, 51, 52, 53] (by decide +kernel) (by decide +kernel)
set_option maxRecDepth 20000 in
theorem gX3_start_X3_fail : GoodIn wsX3_start (wsV RX3 125 RX3 yX3_fail wsX3_fail) := goodIn_app (goodIn_of _ (by decide +kernel)) ggX3_start_X3_fail
set_option maxRecDepth 20000 in
theorem ggX3_start_X3_widthOf : GoodIn wsX3_start wsX3_widthOf := goodIn_r _ [18, 7, 8, 6, 30, 31, 32, 33, 34, 35, 36, 37, 38, 39, 40, 41, 42, 43, 44, 45, 46, 47, 48, 49, 50, 51, 52, 53] (by decide +kernel) (by decide +kernel)
set_option maxRecDepth 20000 in
theorem gX3_start_X3_widthOf : GoodIn wsX3_start (wsV RX3 169 RX3 yX3_widthOf wsX3_widthOf) := goodIn_app (goodIn_of _ (by decide +kernel)) ggX3_start_X3_widthOf
set_option maxRecDepth 20000 in
theorem ggX3_start_X3_mend : GoodIn wsX3_start wsX3_mend := goodIn_r _ [22, 23, 24, 25, 13, 26, 27, 28, 29, 30, 31, 32, 33, 34, 35, 36, 37, 38, 39, 40, 41, 42, 43, 44, 45, 46, 47, 48, 49, 50, 51, 52, 53] (by decide +kernel) (by decide +kernel)
set_option maxRecDepth 20000 in
theorem gX3_start_X3_mend : GoodIn wsX3_start (wsV RX3 172 RX3 yX3_mend wsX3_mend) := goodIn_app (goodIn_of _ (by decide +kernel)) ggX3_start_X3_mend
theorem dX3_start_0 : decode cX3_start 0 = .ok (.aload_n 0, 1) := by decide +kernel
theorem dX3_start_1 : decode cX3_start 1 = .ok (.iconst 0, 1) := by decide +kernel
