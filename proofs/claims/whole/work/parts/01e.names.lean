theorem dX11_takes_124 : decode cX11_takes 124 = .ok (.aload_n 0, 1) := by decide +kernel
theorem dX11_takes_125 : decode cX11_takes 125 = .ok (.iload 6, 2) := by decide +kernel
theorem dX11_takes_127 : decode cX11_takes 127 = .ok (.iload 8, 2) := by decide +kernel
theorem dX11_takes_129 : decode cX11_takes 129 = .ok (.invokevirtual 244, 3) := by decide +kernel
theorem dX11_takes_132 : decode cX11_takes 132 = .ok (.iload 8, 2) := by decide +kernel
theorem dX11_takes_134 : decode cX11_takes 134 = .ok (.iconst 2, 1) := by decide +kernel
theorem dX11_takes_135 : decode cX11_takes 135 = .ok (.if_icmp .ne 8, 3) := by decide +kernel
theorem dX11_takes_138 : decode cX11_takes 138 = .ok (.iload 7, 2) := by decide +kernel
theorem dX11_takes_140 : decode cX11_takes 140 = .ok (.goto 4, 3) := by decide +kernel
theorem dX11_takes_143 : decode cX11_takes 143 = .ok (.iconst 0, 1) := by decide +kernel
theorem dX11_takes_144 : decode cX11_takes 144 = .ok (.isub, 1) := by decide +kernel
theorem dX11_takes_145 : decode cX11_takes 145 = .ok (.iastore, 1) := by decide +kernel
theorem dX11_takes_146 : decode cX11_takes 146 = .ok (.iinc 8 1, 3) := by decide +kernel
theorem dX11_takes_149 : decode cX11_takes 149 = .ok (.goto (-46), 3) := by decide +kernel
theorem dX11_takes_152 : decode cX11_takes 152 = .ok (.iinc 5 1, 3) := by decide +kernel
theorem dX11_takes_155 : decode cX11_takes 155 = .ok (.iinc 6 1, 3) := by decide +kernel
theorem dX11_takes_158 : decode cX11_takes 158 = .ok (.goto (-132), 3) := by decide +kernel
theorem dX11_takes_161 : decode cX11_takes 161 = .ok (.aload_n 0, 1) := by decide +kernel
theorem dX11_takes_162 : decode cX11_takes 162 = .ok (.getfield 20, 3) := by decide +kernel
theorem dX11_takes_165 : decode cX11_takes 165 = .ok (.iconst 1, 1) := by decide +kernel
theorem dX11_takes_166 : decode cX11_takes 166 = .ok (.iload 5, 2) := by decide +kernel
theorem dX11_takes_168 : decode cX11_takes 168 = .ok (.iastore, 1) := by decide +kernel
theorem dX11_takes_169 : decode cX11_takes 169 = .ok (.return_, 1) := by decide +kernel
set_option maxRecDepth 20000 in
theorem ggX11_deliver_X11_isPlace : GoodIn wsX11_deliver wsX11_isPlace := goodIn_r _ [10, 11, 12, 13, 9, 14, 2, 15, 16, 17, 18, 19, 20, 21, 57, 58, 59, 60, 61, 62, 63, 64, 65, 66, 67, 68, 69, 70, 71, 72, 73, 74, 75, 76, 77, 78, 79, 80] (by decide +kernel) (by decide +kernel)
set_option maxRecDepth 20000 in
theorem gX11_deliver_X11_isPlace : GoodIn wsX11_deliver (wsV RX11 250 RX11 yX11_isPlace wsX11_isPlace) := goodIn_app (goodIn_of _ (by decide +kernel)) ggX11_deliver_X11_isPlace
set_option maxRecDepth 20000 in
theorem ggX11_deliver_X11_isCompany : GoodIn wsX11_deliver wsX11_isCompany := goodIn_r _ [14, 2, 15, 16, 9, 17, 57, 58, 59, 60, 61, 62, 63, 64, 65, 66, 67, 68, 69, 70, 71, 72, 73, 74, 75, 76, 77, 78, 79, 80] (by decide +kernel) (by decide +kernel)
set_option maxRecDepth 20000 in
theorem gX11_deliver_X11_isCompany : GoodIn wsX11_deliver (wsV RX11 177 RX11 yX11_isCompany wsX11_isCompany) := goodIn_app (goodIn_of _ (by decide +kernel)) ggX11_deliver_X11_isCompany
set_option maxRecDepth 20000 in
theorem ggX11_deliver_X11_fail : GoodIn wsX11_deliver wsX11_fail := goodIn_r _ [25, 1, 57, 58, 59, 60, 61, 62, 63, 64, 65, 66, 67, 68, 69, 70, 71, 72, 73, 74, 75, 76, 77, 78, 79, 80] (by decide +kernel) (by decide +kernel)
set_option maxRecDepth 20000 in
theorem gX11_deliver_X11_fail : GoodIn wsX11_deliver (wsV RX11 159 RX11 yX11_fail wsX11_fail) := goodIn_app (goodIn_of _ (by decide +kernel)) ggX11_deliver_X11_fail
set_option maxRecDepth 20000 in
theorem ggX11_deliver_X11_within : GoodIn wsX11_deliver wsX11_within := goodIn_r _ [17] (by decide +kernel) (by decide +kernel)
set_option maxRecDepth 20000 in
theorem gX11_deliver_X11_within : GoodIn wsX11_deliver (va_wsS RX11 89 yX11_within wsX11_within) := goodIn_app (goodIn_of _ (by decide +kernel)) ggX11_deliver_X11_within
set_option maxRecDepth 20000 in
theorem ggX11_deliver_X11_canTake : GoodIn wsX11_deliver wsX11_canTake := goodIn_r _ [29, 2, 30, 31, 32, 9, 33, 5, 34, 35, 36, 37, 38, 39, 40, 41, 57, 58, 59, 60, 61, 62, 63, 64, 65, 66, 67, 68, 69, 70, 71, 72, 73, 74, 75, 76, 77, 78, 79, 80] (by decide +kernel) (by decide +kernel)
set_option maxRecDepth 20000 in
theorem gX11_deliver_X11_canTake : GoodIn wsX11_deliver (wsV RX11 261 RX11 yX11_canTake wsX11_canTake) := goodIn_app (goodIn_of _ (by decide +kernel)) ggX11_deliver_X11_canTake
set_option maxRecDepth 20000 in
theorem ggX11_deliver_X11_keep : GoodIn wsX11_deliver wsX11_keep := goodIn_r _ [45, 46, 47, 48, 5, 49, 50, 51, 9, 52, 57, 58, 59, 60, 61, 62, 63, 64, 65, 66, 67, 68, 69, 70, 71, 72, 73, 74, 75, 76, 77, 78, 79, 80] (by decide +kernel) (by decide +kernel)
set_option maxRecDepth 20000 in
theorem gX11_deliver_X11_keep : GoodIn wsX11_deliver (wsV RX11 275 RX11 yX11_keep wsX11_keep) := goodIn_app (goodIn_of _ (by decide +kernel)) ggX11_deliver_X11_keep
set_option maxRecDepth 20000 in
theorem ggX11_deliver_X11_takes : GoodIn wsX11_deliver wsX11_takes := goodIn_r _ [56, 2, 5, 34, 35, 36, 9, 37, 38, 39, 40, 41, 57, 58, 59, 60, 61, 62, 63, 64, 65, 66, 67, 68, 69, 70, 71, 72, 73, 74, 75, 76, 77, 78, 79, 80] (by decide +kernel) (by decide +kernel)
set_option maxRecDepth 20000 in
theorem gX11_deliver_X11_takes : GoodIn wsX11_deliver (wsV RX11 286 RX11 yX11_takes wsX11_takes) := goodIn_app (goodIn_of _ (by decide +kernel)) ggX11_deliver_X11_takes
theorem dX11_deliver_0 : decode cX11_deliver 0 = .ok (.aload_n 0, 1) := by decide +kernel
theorem dX11_deliver_1 : decode cX11_deliver 1 = .ok (.iconst 0, 1) := by decide +kernel
theorem dX11_deliver_2 : decode cX11_deliver 2 = .ok (.putfield 58, 3) := by decide +kernel
theorem dX11_deliver_5 : decode cX11_deliver 5 = .ok (.aload_n 0, 1) := by decide +kernel
theorem dX11_deliver_6 : decode cX11_deliver 6 = .ok (.iload_n 2, 1) := by decide +kernel
theorem dX11_deliver_7 : decode cX11_deliver 7 = .ok (.iload_n 1, 1) := by decide +kernel
theorem dX11_deliver_8 : decode cX11_deliver 8 = .ok (.invokevirtual 250, 3) := by decide +kernel
theorem dX11_deliver_11 : decode cX11_deliver 11 = .ok (.ifCond .eq 11, 3) := by decide +kernel
theorem dX11_deliver_14 : decode cX11_deliver 14 = .ok (.aload_n 0, 1) := by decide +kernel
theorem dX11_deliver_15 : decode cX11_deliver 15 = .ok (.iload_n 3, 1) := by decide +kernel
theorem dX11_deliver_16 : decode cX11_deliver 16 = .ok (.invokevirtual 177, 3) := by decide +kernel
theorem dX11_deliver_19 : decode cX11_deliver 19 = .ok (.ifCond .ne 9, 3) := by decide +kernel
theorem dX11_deliver_22 : decode cX11_deliver 22 = .ok (.aload_n 0, 1) := by decide +kernel
theorem dX11_deliver_23 : decode cX11_deliver 23 = .ok (.iconst 1, 1) := by decide +kernel
theorem dX11_deliver_24 : decode cX11_deliver 24 = .ok (.invokevirtual 159, 3) := by decide +kernel
theorem dX11_deliver_27 : decode cX11_deliver 27 = .ok (.ireturn, 1) := by decide +kernel
theorem dX11_deliver_28 : decode cX11_deliver 28 = .ok (.iload_n 2, 1) := by decide +kernel
theorem dX11_deliver_29 : decode cX11_deliver 29 = .ok (.iload_n 3, 1) := by decide +kernel
theorem dX11_deliver_30 : decode cX11_deliver 30 = .ok (.if_icmp .eq 42, 3) := by decide +kernel
theorem dX11_deliver_33 : decode cX11_deliver 33 = .ok (.aload_n 0, 1) := by decide +kernel
theorem dX11_deliver_34 : decode cX11_deliver 34 = .ok (.getfield 17, 3) := by decide +kernel
theorem dX11_deliver_37 : decode cX11_deliver 37 = .ok (.bipush 16, 2) := by decide +kernel
theorem dX11_deliver_39 : decode cX11_deliver 39 = .ok (.iload_n 1, 1) := by decide +kernel
theorem dX11_deliver_40 : decode cX11_deliver 40 = .ok (.iadd, 1) := by decide +kernel
theorem dX11_deliver_41 : decode cX11_deliver 41 = .ok (.iaload, 1) := by decide +kernel
theorem dX11_deliver_42 : decode cX11_deliver 42 = .ok (.iload_n 3, 1) := by decide +kernel
theorem dX11_deliver_43 : decode cX11_deliver 43 = .ok (.if_icmp .eq 29, 3) := by decide +kernel
theorem dX11_deliver_46 : decode cX11_deliver 46 = .ok (.iload 4, 2) := by decide +kernel
theorem dX11_deliver_48 : decode cX11_deliver 48 = .ok (.i2l, 1) := by decide +kernel
theorem dX11_deliver_49 : decode cX11_deliver 49 = .ok (.lconst 1, 1) := by decide +kernel
theorem dX11_deliver_50 : decode cX11_deliver 50 = .ok (.ldc2_w 271, 3) := by decide +kernel
theorem dX11_deliver_53 : decode cX11_deliver 53 = .ok (.invokestatic 89, 3) := by decide +kernel
theorem dX11_deliver_56 : decode cX11_deliver 56 = .ok (.ifCond .eq 16, 3) := by decide +kernel
theorem dX11_deliver_59 : decode cX11_deliver 59 = .ok (.iload 5, 2) := by decide +kernel
theorem dX11_deliver_61 : decode cX11_deliver 61 = .ok (.i2l, 1) := by decide +kernel
theorem dX11_deliver_62 : decode cX11_deliver 62 = .ok (.lconst 1, 1) := by decide +kernel
theorem dX11_deliver_63 : decode cX11_deliver 63 = .ok (.ldc2_w 284, 3) := by decide +kernel
theorem dX11_deliver_66 : decode cX11_deliver 66 = .ok (.invokestatic 89, 3) := by decide +kernel
theorem dX11_deliver_69 : decode cX11_deliver 69 = .ok (.ifCond .ne 9, 3) := by decide +kernel
theorem dX11_deliver_72 : decode cX11_deliver 72 = .ok (.aload_n 0, 1) := by decide +kernel
theorem dX11_deliver_73 : decode cX11_deliver 73 = .ok (.iconst 2, 1) := by decide +kernel
theorem dX11_deliver_74 : decode cX11_deliver 74 = .ok (.invokevirtual 159, 3) := by decide +kernel
theorem dX11_deliver_77 : decode cX11_deliver 77 = .ok (.ireturn, 1) := by decide +kernel
theorem dX11_deliver_78 : decode cX11_deliver 78 = .ok (.aload_n 0, 1) := by decide +kernel
theorem dX11_deliver_79 : decode cX11_deliver 79 = .ok (.iload_n 2, 1) := by decide +kernel
theorem dX11_deliver_80 : decode cX11_deliver 80 = .ok (.iload_n 1, 1) := by decide +kernel
theorem dX11_deliver_81 : decode cX11_deliver 81 = .ok (.iload 4, 2) := by decide +kernel
theorem dX11_deliver_83 : decode cX11_deliver 83 = .ok (.invokevirtual 261, 3) := by decide +kernel
theorem dX11_deliver_86 : decode cX11_deliver 86 = .ok (.ifCond .eq 14, 3) := by decide +kernel
theorem dX11_deliver_89 : decode cX11_deliver 89 = .ok (.aload_n 0, 1) := by decide +kernel
theorem dX11_deliver_90 : decode cX11_deliver 90 = .ok (.getfield 20, 3) := by decide +kernel
theorem dX11_deliver_93 : decode cX11_deliver 93 = .ok (.iconst 2, 1) := by decide +kernel
theorem dX11_deliver_94 : decode cX11_deliver 94 = .ok (.iaload, 1) := by decide +kernel
theorem dX11_deliver_95 : decode cX11_deliver 95 = .ok (.bipush 100, 2) := by decide +kernel
theorem dX11_deliver_97 : decode cX11_deliver 97 = .ok (.if_icmp .ne 9, 3) := by decide +kernel
theorem dX11_deliver_100 : decode cX11_deliver 100 = .ok (.aload_n 0, 1) := by decide +kernel
theorem dX11_deliver_101 : decode cX11_deliver 101 = .ok (.iconst 3, 1) := by decide +kernel
theorem dX11_deliver_102 : decode cX11_deliver 102 = .ok (.invokevirtual 159, 3) := by decide +kernel
theorem dX11_deliver_105 : decode cX11_deliver 105 = .ok (.ireturn, 1) := by decide +kernel
theorem dX11_deliver_106 : decode cX11_deliver 106 = .ok (.aload_n 0, 1) := by decide +kernel
theorem dX11_deliver_107 : decode cX11_deliver 107 = .ok (.invokevirtual 275, 3) := by decide +kernel
theorem dX11_deliver_110 : decode cX11_deliver 110 = .ok (.aload_n 0, 1) := by decide +kernel
theorem dX11_deliver_111 : decode cX11_deliver 111 = .ok (.iload_n 2, 1) := by decide +kernel
theorem dX11_deliver_112 : decode cX11_deliver 112 = .ok (.iload_n 1, 1) := by decide +kernel
theorem dX11_deliver_113 : decode cX11_deliver 113 = .ok (.iload 4, 2) := by decide +kernel
theorem dX11_deliver_115 : decode cX11_deliver 115 = .ok (.invokevirtual 286, 3) := by decide +kernel
theorem dX11_deliver_118 : decode cX11_deliver 118 = .ok (.sipush 608, 3) := by decide +kernel
theorem dX11_deliver_121 : decode cX11_deliver 121 = .ok (.iconst 4, 1) := by decide +kernel
theorem dX11_deliver_122 : decode cX11_deliver 122 = .ok (.aload_n 0, 1) := by decide +kernel
theorem dX11_deliver_123 : decode cX11_deliver 123 = .ok (.getfield 20, 3) := by decide +kernel
theorem dX11_deliver_126 : decode cX11_deliver 126 = .ok (.iconst 1, 1) := by decide +kernel
theorem dX11_deliver_127 : decode cX11_deliver 127 = .ok (.iaload, 1) := by decide +kernel
theorem dX11_deliver_128 : decode cX11_deliver 128 = .ok (.imul, 1) := by decide +kernel
theorem dX11_deliver_129 : decode cX11_deliver 129 = .ok (.iadd, 1) := by decide +kernel
theorem dX11_deliver_130 : decode cX11_deliver 130 = .ok (.istore 6, 2) := by decide +kernel
theorem dX11_deliver_132 : decode cX11_deliver 132 = .ok (.aload_n 0, 1) := by decide +kernel
theorem dX11_deliver_133 : decode cX11_deliver 133 = .ok (.getfield 20, 3) := by decide +kernel
theorem dX11_deliver_136 : decode cX11_deliver 136 = .ok (.iconst 1, 1) := by decide +kernel
theorem dX11_deliver_137 : decode cX11_deliver 137 = .ok (.dup2, 1) := by decide +kernel
theorem dX11_deliver_138 : decode cX11_deliver 138 = .ok (.iaload, 1) := by decide +kernel
theorem dX11_deliver_139 : decode cX11_deliver 139 = .ok (.iconst 1, 1) := by decide +kernel
theorem dX11_deliver_140 : decode cX11_deliver 140 = .ok (.iadd, 1) := by decide +kernel
theorem dX11_deliver_141 : decode cX11_deliver 141 = .ok (.iastore, 1) := by decide +kernel
theorem dX11_deliver_142 : decode cX11_deliver 142 = .ok (.aload_n 0, 1) := by decide +kernel
theorem dX11_deliver_143 : decode cX11_deliver 143 = .ok (.getfield 20, 3) := by decide +kernel
theorem dX11_deliver_146 : decode cX11_deliver 146 = .ok (.iload 6, 2) := by decide +kernel
theorem dX11_deliver_148 : decode cX11_deliver 148 = .ok (.iconst 0, 1) := by decide +kernel
theorem dX11_deliver_149 : decode cX11_deliver 149 = .ok (.iadd, 1) := by decide +kernel
theorem dX11_deliver_150 : decode cX11_deliver 150 = .ok (.iload_n 3, 1) := by decide +kernel
theorem dX11_deliver_151 : decode cX11_deliver 151 = .ok (.iastore, 1) := by decide +kernel
theorem dX11_deliver_152 : decode cX11_deliver 152 = .ok (.aload_n 0, 1) := by decide +kernel
theorem dX11_deliver_153 : decode cX11_deliver 153 = .ok (.getfield 20, 3) := by decide +kernel
theorem dX11_deliver_156 : decode cX11_deliver 156 = .ok (.iload 6, 2) := by decide +kernel
theorem dX11_deliver_158 : decode cX11_deliver 158 = .ok (.iconst 1, 1) := by decide +kernel
theorem dX11_deliver_159 : decode cX11_deliver 159 = .ok (.iadd, 1) := by decide +kernel
theorem dX11_deliver_160 : decode cX11_deliver 160 = .ok (.iload_n 1, 1) := by decide +kernel
theorem dX11_deliver_161 : decode cX11_deliver 161 = .ok (.iastore, 1) := by decide +kernel
theorem dX11_deliver_162 : decode cX11_deliver 162 = .ok (.aload_n 0, 1) := by decide +kernel
theorem dX11_deliver_163 : decode cX11_deliver 163 = .ok (.getfield 20, 3) := by decide +kernel
theorem dX11_deliver_166 : decode cX11_deliver 166 = .ok (.iload 6, 2) := by decide +kernel
theorem dX11_deliver_168 : decode cX11_deliver 168 = .ok (.iconst 2, 1) := by decide +kernel
theorem dX11_deliver_169 : decode cX11_deliver 169 = .ok (.iadd, 1) := by decide +kernel
theorem dX11_deliver_170 : decode cX11_deliver 170 = .ok (.iload 4, 2) := by decide +kernel
theorem dX11_deliver_172 : decode cX11_deliver 172 = .ok (.iastore, 1) := by decide +kernel
theorem dX11_deliver_173 : decode cX11_deliver 173 = .ok (.aload_n 0, 1) := by decide +kernel
theorem dX11_deliver_174 : decode cX11_deliver 174 = .ok (.getfield 20, 3) := by decide +kernel
theorem dX11_deliver_177 : decode cX11_deliver 177 = .ok (.iload 6, 2) := by decide +kernel
theorem dX11_deliver_179 : decode cX11_deliver 179 = .ok (.iconst 3, 1) := by decide +kernel
theorem dX11_deliver_180 : decode cX11_deliver 180 = .ok (.iadd, 1) := by decide +kernel
theorem dX11_deliver_181 : decode cX11_deliver 181 = .ok (.iload 5, 2) := by decide +kernel
theorem dX11_deliver_183 : decode cX11_deliver 183 = .ok (.iastore, 1) := by decide +kernel
theorem dX11_deliver_184 : decode cX11_deliver 184 = .ok (.aload_n 0, 1) := by decide +kernel
theorem dX11_deliver_185 : decode cX11_deliver 185 = .ok (.getfield 20, 3) := by decide +kernel
theorem dX11_deliver_188 : decode cX11_deliver 188 = .ok (.iconst 2, 1) := by decide +kernel
theorem dX11_deliver_189 : decode cX11_deliver 189 = .ok (.iaload, 1) := by decide +kernel
theorem dX11_deliver_190 : decode cX11_deliver 190 = .ok (.istore 7, 2) := by decide +kernel
theorem dX11_deliver_192 : decode cX11_deliver 192 = .ok (.aload_n 0, 1) := by decide +kernel
theorem dX11_deliver_193 : decode cX11_deliver 193 = .ok (.getfield 20, 3) := by decide +kernel
theorem dX11_deliver_196 : decode cX11_deliver 196 = .ok (.iconst 2, 1) := by decide +kernel
theorem dX11_deliver_197 : decode cX11_deliver 197 = .ok (.dup2, 1) := by decide +kernel
theorem dX11_deliver_198 : decode cX11_deliver 198 = .ok (.iaload, 1) := by decide +kernel
theorem dX11_deliver_199 : decode cX11_deliver 199 = .ok (.iconst 1, 1) := by decide +kernel
theorem dX11_deliver_200 : decode cX11_deliver 200 = .ok (.iadd, 1) := by decide +kernel
theorem dX11_deliver_201 : decode cX11_deliver 201 = .ok (.iastore, 1) := by decide +kernel
theorem dX11_deliver_202 : decode cX11_deliver 202 = .ok (.sipush 1008, 3) := by decide +kernel
theorem dX11_deliver_205 : decode cX11_deliver 205 = .ok (.iconst 5, 1) := by decide +kernel
theorem dX11_deliver_206 : decode cX11_deliver 206 = .ok (.iload 7, 2) := by decide +kernel
theorem dX11_deliver_208 : decode cX11_deliver 208 = .ok (.imul, 1) := by decide +kernel
theorem dX11_deliver_209 : decode cX11_deliver 209 = .ok (.iadd, 1) := by decide +kernel
theorem dX11_deliver_210 : decode cX11_deliver 210 = .ok (.istore 8, 2) := by decide +kernel
theorem dX11_deliver_212 : decode cX11_deliver 212 = .ok (.aload_n 0, 1) := by decide +kernel
theorem dX11_deliver_213 : decode cX11_deliver 213 = .ok (.getfield 20, 3) := by decide +kernel
theorem dX11_deliver_216 : decode cX11_deliver 216 = .ok (.iload 8, 2) := by decide +kernel
theorem dX11_deliver_218 : decode cX11_deliver 218 = .ok (.iconst 0, 1) := by decide +kernel
theorem dX11_deliver_219 : decode cX11_deliver 219 = .ok (.iadd, 1) := by decide +kernel
theorem dX11_deliver_220 : decode cX11_deliver 220 = .ok (.iload_n 1, 1) := by decide +kernel
theorem dX11_deliver_221 : decode cX11_deliver 221 = .ok (.iastore, 1) := by decide +kernel
theorem dX11_deliver_222 : decode cX11_deliver 222 = .ok (.aload_n 0, 1) := by decide +kernel
theorem dX11_deliver_223 : decode cX11_deliver 223 = .ok (.getfield 20, 3) := by decide +kernel
theorem dX11_deliver_226 : decode cX11_deliver 226 = .ok (.iload 8, 2) := by decide +kernel
theorem dX11_deliver_228 : decode cX11_deliver 228 = .ok (.iconst 1, 1) := by decide +kernel
theorem dX11_deliver_229 : decode cX11_deliver 229 = .ok (.iadd, 1) := by decide +kernel
theorem dX11_deliver_230 : decode cX11_deliver 230 = .ok (.iload_n 2, 1) := by decide +kernel
theorem dX11_deliver_231 : decode cX11_deliver 231 = .ok (.iastore, 1) := by decide +kernel
theorem dX11_deliver_232 : decode cX11_deliver 232 = .ok (.aload_n 0, 1) := by decide +kernel
theorem dX11_deliver_233 : decode cX11_deliver 233 = .ok (.getfield 20, 3) := by decide +kernel
theorem dX11_deliver_236 : decode cX11_deliver 236 = .ok (.iload 8, 2) := by decide +kernel
theorem dX11_deliver_238 : decode cX11_deliver 238 = .ok (.iconst 2, 1) := by decide +kernel
theorem dX11_deliver_239 : decode cX11_deliver 239 = .ok (.iadd, 1) := by decide +kernel
theorem dX11_deliver_240 : decode cX11_deliver 240 = .ok (.iload_n 3, 1) := by decide +kernel
theorem dX11_deliver_241 : decode cX11_deliver 241 = .ok (.iastore, 1) := by decide +kernel
theorem dX11_deliver_242 : decode cX11_deliver 242 = .ok (.aload_n 0, 1) := by decide +kernel
theorem dX11_deliver_243 : decode cX11_deliver 243 = .ok (.getfield 20, 3) := by decide +kernel
theorem dX11_deliver_246 : decode cX11_deliver 246 = .ok (.iload 8, 2) := by decide +kernel
theorem dX11_deliver_248 : decode cX11_deliver 248 = .ok (.iconst 3, 1) := by decide +kernel
theorem dX11_deliver_249 : decode cX11_deliver 249 = .ok (.iadd, 1) := by decide +kernel
theorem dX11_deliver_250 : decode cX11_deliver 250 = .ok (.iload 4, 2) := by decide +kernel
theorem dX11_deliver_252 : decode cX11_deliver 252 = .ok (.iastore, 1) := by decide +kernel
theorem dX11_deliver_253 : decode cX11_deliver 253 = .ok (.aload_n 0, 1) := by decide +kernel
theorem dX11_deliver_254 : decode cX11_deliver 254 = .ok (.getfield 20, 3) := by decide +kernel
theorem dX11_deliver_257 : decode cX11_deliver 257 = .ok (.iload 8, 2) := by decide +kernel
theorem dX11_deliver_259 : decode cX11_deliver 259 = .ok (.iconst 4, 1) := by decide +kernel
theorem dX11_deliver_260 : decode cX11_deliver 260 = .ok (.iadd, 1) := by decide +kernel
theorem dX11_deliver_261 : decode cX11_deliver 261 = .ok (.iload 5, 2) := by decide +kernel
theorem dX11_deliver_263 : decode cX11_deliver 263 = .ok (.iastore, 1) := by decide +kernel
theorem dX11_deliver_264 : decode cX11_deliver 264 = .ok (.iload 7, 2) := by decide +kernel
theorem dX11_deliver_266 : decode cX11_deliver 266 = .ok (.ireturn, 1) := by decide +kernel
set_option maxRecDepth 20000 in
theorem ggX11_sell_X11_isPlace : GoodIn wsX11_sell wsX11_isPlace := goodIn_r _ [10, 11, 12, 13, 9, 14, 4, 15, 16, 17, 18, 19, 20, 21, 53, 54, 55, 56, 57, 58, 59, 60, 61, 62, 63, 64, 65, 66, 67, 68, 69, 70, 71, 72, 73, 74, 75, 76] (by decide +kernel) (by decide +kernel)
set_option maxRecDepth 20000 in
theorem gX11_sell_X11_isPlace : GoodIn wsX11_sell (wsV RX11 250 RX11 yX11_isPlace wsX11_isPlace) := goodIn_app (goodIn_of _ (by decide +kernel)) ggX11_sell_X11_isPlace
set_option maxRecDepth 20000 in
theorem ggX11_sell_X11_within : GoodIn wsX11_sell wsX11_within := goodIn_r _ [17] (by decide +kernel) (by decide +kernel)
set_option maxRecDepth 20000 in
theorem gX11_sell_X11_within : GoodIn wsX11_sell (va_wsS RX11 89 yX11_within wsX11_within) := goodIn_app (goodIn_of _ (by decide +kernel)) ggX11_sell_X11_within
set_option maxRecDepth 20000 in
theorem ggX11_sell_X11_canTake : GoodIn wsX11_sell wsX11_canTake := goodIn_r _ [25, 4, 26, 27, 28, 9, 29, 30, 31, 32, 33, 34, 35, 36, 37, 38, 53, 54, 55, 56, 57, 58, 59, 60, 61, 62, 63, 64, 65, 66, 67, 68, 69, 70, 71, 72, 73, 74, 75, 76] (by decide +kernel) (by decide +kernel)
set_option maxRecDepth 20000 in
theorem gX11_sell_X11_canTake : GoodIn wsX11_sell (wsV RX11 261 RX11 yX11_canTake wsX11_canTake) := goodIn_app (goodIn_of _ (by decide +kernel)) ggX11_sell_X11_canTake
set_option maxRecDepth 20000 in
theorem ggX11_sell_X11_keep : GoodIn wsX11_sell wsX11_keep := goodIn_r _ [42, 43, 44, 45, 30, 5, 46, 47, 9, 48, 53, 54, 55, 56, 57, 58, 59, 60, 61, 62, 63, 64, 65, 66, 67, 68, 69, 70, 71, 72, 73, 74, 75, 76] (by decide +kernel) (by decide +kernel)
set_option maxRecDepth 20000 in
theorem gX11_sell_X11_keep : GoodIn wsX11_sell (wsV RX11 275 RX11 yX11_keep wsX11_keep) := goodIn_app (goodIn_of _ (by decide +kernel)) ggX11_sell_X11_keep
set_option maxRecDepth 20000 in
theorem ggX11_sell_X11_takes : GoodIn wsX11_sell wsX11_takes := goodIn_r _ [52, 4, 30, 31, 32, 33, 9, 34, 35, 36, 37, 38, 53, 54, 55, 56, 57, 58, 59, 60, 61, 62, 63, 64, 65, 66, 67, 68, 69, 70, 71, 72, 73, 74, 75, 76] (by decide +kernel) (by decide +kernel)
set_option maxRecDepth 20000 in
theorem gX11_sell_X11_takes : GoodIn wsX11_sell (wsV RX11 286 RX11 yX11_takes wsX11_takes) := goodIn_app (goodIn_of _ (by decide +kernel)) ggX11_sell_X11_takes
theorem dX11_sell_0 : decode cX11_sell 0 = .ok (.aload_n 0, 1) := by decide +kernel
theorem dX11_sell_1 : decode cX11_sell 1 = .ok (.aload_n 0, 1) := by decide +kernel
theorem dX11_sell_2 : decode cX11_sell 2 = .ok (.iload_n 1, 1) := by decide +kernel
theorem dX11_sell_3 : decode cX11_sell 3 = .ok (.iload_n 2, 1) := by decide +kernel
theorem dX11_sell_4 : decode cX11_sell 4 = .ok (.invokevirtual 250, 3) := by decide +kernel
theorem dX11_sell_7 : decode cX11_sell 7 = .ok (.ifCond .ne 7, 3) := by decide +kernel
theorem dX11_sell_10 : decode cX11_sell 10 = .ok (.iconst 1, 1) := by decide +kernel
theorem dX11_sell_11 : decode cX11_sell 11 = .ok (.goto 47, 3) := by decide +kernel
theorem dX11_sell_14 : decode cX11_sell 14 = .ok (.iload_n 3, 1) := by decide +kernel
theorem dX11_sell_15 : decode cX11_sell 15 = .ok (.i2l, 1) := by decide +kernel
theorem dX11_sell_16 : decode cX11_sell 16 = .ok (.lconst 1, 1) := by decide +kernel
theorem dX11_sell_17 : decode cX11_sell 17 = .ok (.ldc2_w 259, 3) := by decide +kernel
theorem dX11_sell_20 : decode cX11_sell 20 = .ok (.invokestatic 89, 3) := by decide +kernel
theorem dX11_sell_23 : decode cX11_sell 23 = .ok (.ifCond .eq 16, 3) := by decide +kernel
theorem dX11_sell_26 : decode cX11_sell 26 = .ok (.iload 4, 2) := by decide +kernel
theorem dX11_sell_28 : decode cX11_sell 28 = .ok (.i2l, 1) := by decide +kernel
theorem dX11_sell_29 : decode cX11_sell 29 = .ok (.lconst 1, 1) := by decide +kernel
theorem dX11_sell_30 : decode cX11_sell 30 = .ok (.ldc2_w 284, 3) := by decide +kernel
theorem dX11_sell_33 : decode cX11_sell 33 = .ok (.invokestatic 89, 3) := by decide +kernel
theorem dX11_sell_36 : decode cX11_sell 36 = .ok (.ifCond .ne 7, 3) := by decide +kernel
theorem dX11_sell_39 : decode cX11_sell 39 = .ok (.iconst 2, 1) := by decide +kernel
theorem dX11_sell_40 : decode cX11_sell 40 = .ok (.goto 18, 3) := by decide +kernel
theorem dX11_sell_43 : decode cX11_sell 43 = .ok (.aload_n 0, 1) := by decide +kernel
theorem dX11_sell_44 : decode cX11_sell 44 = .ok (.iload_n 1, 1) := by decide +kernel
theorem dX11_sell_45 : decode cX11_sell 45 = .ok (.iload_n 2, 1) := by decide +kernel
theorem dX11_sell_46 : decode cX11_sell 46 = .ok (.iload_n 3, 1) := by decide +kernel
theorem dX11_sell_47 : decode cX11_sell 47 = .ok (.invokevirtual 261, 3) := by decide +kernel
theorem dX11_sell_50 : decode cX11_sell 50 = .ok (.ifCond .ne 7, 3) := by decide +kernel
theorem dX11_sell_53 : decode cX11_sell 53 = .ok (.iconst 3, 1) := by decide +kernel
theorem dX11_sell_54 : decode cX11_sell 54 = .ok (.goto 4, 3) := by decide +kernel
theorem dX11_sell_57 : decode cX11_sell 57 = .ok (.iconst 0, 1) := by decide +kernel
theorem dX11_sell_58 : decode cX11_sell 58 = .ok (.putfield 58, 3) := by decide +kernel
theorem dX11_sell_61 : decode cX11_sell 61 = .ok (.aload_n 0, 1) := by decide +kernel
theorem dX11_sell_62 : decode cX11_sell 62 = .ok (.getfield 58, 3) := by decide +kernel
theorem dX11_sell_65 : decode cX11_sell 65 = .ok (.ifCond .le 5, 3) := by decide +kernel
theorem dX11_sell_68 : decode cX11_sell 68 = .ok (.lconst 0, 1) := by decide +kernel
theorem dX11_sell_69 : decode cX11_sell 69 = .ok (.lreturn, 1) := by decide +kernel
theorem dX11_sell_70 : decode cX11_sell 70 = .ok (.aload_n 0, 1) := by decide +kernel
theorem dX11_sell_71 : decode cX11_sell 71 = .ok (.invokevirtual 275, 3) := by decide +kernel
theorem dX11_sell_74 : decode cX11_sell 74 = .ok (.aload_n 0, 1) := by decide +kernel
theorem dX11_sell_75 : decode cX11_sell 75 = .ok (.iload_n 1, 1) := by decide +kernel
theorem dX11_sell_76 : decode cX11_sell 76 = .ok (.iload_n 2, 1) := by decide +kernel
theorem dX11_sell_77 : decode cX11_sell 77 = .ok (.iload_n 3, 1) := by decide +kernel
theorem dX11_sell_78 : decode cX11_sell 78 = .ok (.invokevirtual 286, 3) := by decide +kernel
theorem dX11_sell_81 : decode cX11_sell 81 = .ok (.iload_n 3, 1) := by decide +kernel
theorem dX11_sell_82 : decode cX11_sell 82 = .ok (.i2l, 1) := by decide +kernel
theorem dX11_sell_83 : decode cX11_sell 83 = .ok (.iload 4, 2) := by decide +kernel
theorem dX11_sell_85 : decode cX11_sell 85 = .ok (.aload_n 0, 1) := by decide +kernel
theorem dX11_sell_86 : decode cX11_sell 86 = .ok (.getfield 17, 3) := by decide +kernel
theorem dX11_sell_89 : decode cX11_sell 89 = .ok (.bipush 22, 2) := by decide +kernel
theorem dX11_sell_91 : decode cX11_sell 91 = .ok (.iload_n 2, 1) := by decide +kernel
theorem dX11_sell_92 : decode cX11_sell 92 = .ok (.iadd, 1) := by decide +kernel
theorem dX11_sell_93 : decode cX11_sell 93 = .ok (.iaload, 1) := by decide +kernel
theorem dX11_sell_94 : decode cX11_sell 94 = .ok (.isub, 1) := by decide +kernel
theorem dX11_sell_95 : decode cX11_sell 95 = .ok (.i2l, 1) := by decide +kernel
theorem dX11_sell_96 : decode cX11_sell 96 = .ok (.lmul, 1) := by decide +kernel
theorem dX11_sell_97 : decode cX11_sell 97 = .ok (.lstore 5, 2) := by decide +kernel
theorem dX11_sell_99 : decode cX11_sell 99 = .ok (.aload_n 0, 1) := by decide +kernel
theorem dX11_sell_100 : decode cX11_sell 100 = .ok (.getfield 23, 3) := by decide +kernel
theorem dX11_sell_103 : decode cX11_sell 103 = .ok (.iconst 2, 1) := by decide +kernel
theorem dX11_sell_104 : decode cX11_sell 104 = .ok (.dup2, 1) := by decide +kernel
theorem dX11_sell_105 : decode cX11_sell 105 = .ok (.laload, 1) := by decide +kernel
theorem dX11_sell_106 : decode cX11_sell 106 = .ok (.lload 5, 2) := by decide +kernel
theorem dX11_sell_108 : decode cX11_sell 108 = .ok (.ladd, 1) := by decide +kernel
theorem dX11_sell_109 : decode cX11_sell 109 = .ok (.lastore, 1) := by decide +kernel
theorem dX11_sell_110 : decode cX11_sell 110 = .ok (.lload 5, 2) := by decide +kernel
theorem dX11_sell_112 : decode cX11_sell 112 = .ok (.lreturn, 1) := by decide +kernel
set_option maxRecDepth 20000 in
theorem ggX11_undo_X11_copy : GoodIn wsX11_undo wsX11_copy := goodIn_r _ [10] (by decide +kernel) (by decide +kernel)
set_option maxRecDepth 20000 in
theorem gX11_undo_X11_copy : GoodIn wsX11_undo (va_wsS RX11 165 yX11_copy wsX11_copy) := goodIn_app (goodIn_of _ (by decide +kernel)) ggX11_undo_X11_copy
theorem dX11_undo_0 : decode cX11_undo 0 = .ok (.aload_n 0, 1) := by decide +kernel
theorem dX11_undo_1 : decode cX11_undo 1 = .ok (.iconst 0, 1) := by decide +kernel
theorem dX11_undo_2 : decode cX11_undo 2 = .ok (.putfield 58, 3) := by decide +kernel
theorem dX11_undo_5 : decode cX11_undo 5 = .ok (.aload_n 0, 1) := by decide +kernel
theorem dX11_undo_6 : decode cX11_undo 6 = .ok (.getfield 125, 3) := by decide +kernel
theorem dX11_undo_9 : decode cX11_undo 9 = .ok (.ifCond .ne 5, 3) := by decide +kernel
theorem dX11_undo_12 : decode cX11_undo 12 = .ok (.iconst (-1), 1) := by decide +kernel
theorem dX11_undo_13 : decode cX11_undo 13 = .ok (.ireturn, 1) := by decide +kernel
theorem dX11_undo_14 : decode cX11_undo 14 = .ok (.aload_n 0, 1) := by decide +kernel
theorem dX11_undo_15 : decode cX11_undo 15 = .ok (.dup, 1) := by decide +kernel
theorem dX11_undo_16 : decode cX11_undo 16 = .ok (.getfield 125, 3) := by decide +kernel
theorem dX11_undo_19 : decode cX11_undo 19 = .ok (.iconst 1, 1) := by decide +kernel
theorem dX11_undo_20 : decode cX11_undo 20 = .ok (.isub, 1) := by decide +kernel
theorem dX11_undo_21 : decode cX11_undo 21 = .ok (.putfield 125, 3) := by decide +kernel
theorem dX11_undo_24 : decode cX11_undo 24 = .ok (.aload_n 0, 1) := by decide +kernel
theorem dX11_undo_25 : decode cX11_undo 25 = .ok (.getfield 27, 3) := by decide +kernel
theorem dX11_undo_28 : decode cX11_undo 28 = .ok (.aload_n 0, 1) := by decide +kernel
theorem dX11_undo_29 : decode cX11_undo 29 = .ok (.getfield 30, 3) := by decide +kernel
theorem dX11_undo_32 : decode cX11_undo 32 = .ok (.aload_n 0, 1) := by decide +kernel
theorem dX11_undo_33 : decode cX11_undo 33 = .ok (.getfield 125, 3) := by decide +kernel
theorem dX11_undo_36 : decode cX11_undo 36 = .ok (.aload_n 0, 1) := by decide +kernel
theorem dX11_undo_37 : decode cX11_undo 37 = .ok (.getfield 20, 3) := by decide +kernel
theorem dX11_undo_40 : decode cX11_undo 40 = .ok (.aload_n 0, 1) := by decide +kernel
theorem dX11_undo_41 : decode cX11_undo 41 = .ok (.getfield 23, 3) := by decide +kernel
theorem dX11_undo_44 : decode cX11_undo 44 = .ok (.iconst 0, 1) := by decide +kernel
theorem dX11_undo_45 : decode cX11_undo 45 = .ok (.invokestatic 165, 3) := by decide +kernel
theorem dX11_undo_48 : decode cX11_undo 48 = .ok (.aload_n 0, 1) := by decide +kernel
theorem dX11_undo_49 : decode cX11_undo 49 = .ok (.getfield 125, 3) := by decide +kernel
theorem dX11_undo_52 : decode cX11_undo 52 = .ok (.ireturn, 1) := by decide +kernel
set_option maxRecDepth 20000 in
theorem ggX11_saveSnapshot_X11_within : GoodIn wsX11_saveSnapshot wsX11_within := goodIn_r _ [10] (by decide +kernel) (by decide +kernel)
set_option maxRecDepth 20000 in
theorem gX11_saveSnapshot_X11_within : GoodIn wsX11_saveSnapshot (va_wsS RX11 89 yX11_within wsX11_within) := goodIn_app (goodIn_of _ (by decide +kernel)) ggX11_saveSnapshot_X11_within
set_option maxRecDepth 20000 in
theorem ggX11_saveSnapshot_X11_copy : GoodIn wsX11_saveSnapshot wsX11_copy := goodIn_r _ [13] (by decide +kernel) (by decide +kernel)
set_option maxRecDepth 20000 in
theorem gX11_saveSnapshot_X11_copy : GoodIn wsX11_saveSnapshot (va_wsS RX11 165 yX11_copy wsX11_copy) := goodIn_app (goodIn_of _ (by decide +kernel)) ggX11_saveSnapshot_X11_copy
theorem dX11_saveSnapshot_0 : decode cX11_saveSnapshot 0 = .ok (.aload_n 0, 1) := by decide +kernel
theorem dX11_saveSnapshot_1 : decode cX11_saveSnapshot 1 = .ok (.iconst 0, 1) := by decide +kernel
theorem dX11_saveSnapshot_2 : decode cX11_saveSnapshot 2 = .ok (.putfield 58, 3) := by decide +kernel
theorem dX11_saveSnapshot_5 : decode cX11_saveSnapshot 5 = .ok (.iload_n 1, 1) := by decide +kernel
theorem dX11_saveSnapshot_6 : decode cX11_saveSnapshot 6 = .ok (.i2l, 1) := by decide +kernel
theorem dX11_saveSnapshot_7 : decode cX11_saveSnapshot 7 = .ok (.lconst 0, 1) := by decide +kernel
theorem dX11_saveSnapshot_8 : decode cX11_saveSnapshot 8 = .ok (.lconst 1, 1) := by decide +kernel
theorem dX11_saveSnapshot_9 : decode cX11_saveSnapshot 9 = .ok (.invokestatic 89, 3) := by decide +kernel
theorem dX11_saveSnapshot_12 : decode cX11_saveSnapshot 12 = .ok (.ifCond .ne 5, 3) := by decide +kernel
theorem dX11_saveSnapshot_15 : decode cX11_saveSnapshot 15 = .ok (.iconst 0, 1) := by decide +kernel
theorem dX11_saveSnapshot_16 : decode cX11_saveSnapshot 16 = .ok (.ireturn, 1) := by decide +kernel
theorem dX11_saveSnapshot_17 : decode cX11_saveSnapshot 17 = .ok (.aload_n 0, 1) := by decide +kernel
theorem dX11_saveSnapshot_18 : decode cX11_saveSnapshot 18 = .ok (.getfield 20, 3) := by decide +kernel
theorem dX11_saveSnapshot_21 : decode cX11_saveSnapshot 21 = .ok (.aload_n 0, 1) := by decide +kernel
theorem dX11_saveSnapshot_22 : decode cX11_saveSnapshot 22 = .ok (.getfield 23, 3) := by decide +kernel
theorem dX11_saveSnapshot_25 : decode cX11_saveSnapshot 25 = .ok (.iconst 0, 1) := by decide +kernel
theorem dX11_saveSnapshot_26 : decode cX11_saveSnapshot 26 = .ok (.aload_n 0, 1) := by decide +kernel
theorem dX11_saveSnapshot_27 : decode cX11_saveSnapshot 27 = .ok (.getfield 33, 3) := by decide +kernel
theorem dX11_saveSnapshot_30 : decode cX11_saveSnapshot 30 = .ok (.aload_n 0, 1) := by decide +kernel
theorem dX11_saveSnapshot_31 : decode cX11_saveSnapshot 31 = .ok (.getfield 36, 3) := by decide +kernel
theorem dX11_saveSnapshot_34 : decode cX11_saveSnapshot 34 = .ok (.iload_n 1, 1) := by decide +kernel
theorem dX11_saveSnapshot_35 : decode cX11_saveSnapshot 35 = .ok (.invokestatic 165, 3) := by decide +kernel
theorem dX11_saveSnapshot_38 : decode cX11_saveSnapshot 38 = .ok (.aload_n 0, 1) := by decide +kernel
theorem dX11_saveSnapshot_39 : decode cX11_saveSnapshot 39 = .ok (.getfield 39, 3) := by decide +kernel
theorem dX11_saveSnapshot_42 : decode cX11_saveSnapshot 42 = .ok (.iload_n 1, 1) := by decide +kernel
theorem dX11_saveSnapshot_43 : decode cX11_saveSnapshot 43 = .ok (.iconst 1, 1) := by decide +kernel
theorem dX11_saveSnapshot_44 : decode cX11_saveSnapshot 44 = .ok (.bastore, 1) := by decide +kernel
theorem dX11_saveSnapshot_45 : decode cX11_saveSnapshot 45 = .ok (.iconst 1, 1) := by decide +kernel
theorem dX11_saveSnapshot_46 : decode cX11_saveSnapshot 46 = .ok (.ireturn, 1) := by decide +kernel
set_option maxRecDepth 20000 in
theorem ggX11_restoreSnapshot_X11_within : GoodIn wsX11_restoreSnapshot wsX11_within := goodIn_r _ [11] (by decide +kernel) (by decide +kernel)
set_option maxRecDepth 20000 in
theorem gX11_restoreSnapshot_X11_within : GoodIn wsX11_restoreSnapshot (va_wsS RX11 89 yX11_within wsX11_within) := goodIn_app (goodIn_of _ (by decide +kernel)) ggX11_restoreSnapshot_X11_within
set_option maxRecDepth 20000 in
theorem ggX11_restoreSnapshot_X11_copy : GoodIn wsX11_restoreSnapshot wsX11_copy := goodIn_r _ [14] (by decide +kernel) (by decide +kernel)
set_option maxRecDepth 20000 in
theorem gX11_restoreSnapshot_X11_copy : GoodIn wsX11_restoreSnapshot (va_wsS RX11 165 yX11_copy wsX11_copy) := goodIn_app (goodIn_of _ (by decide +kernel)) ggX11_restoreSnapshot_X11_copy
theorem dX11_restoreSnapshot_0 : decode cX11_restoreSnapshot 0 = .ok (.aload_n 0, 1) := by decide +kernel
theorem dX11_restoreSnapshot_1 : decode cX11_restoreSnapshot 1 = .ok (.iconst 0, 1) := by decide +kernel
theorem dX11_restoreSnapshot_2 : decode cX11_restoreSnapshot 2 = .ok (.putfield 58, 3) := by decide +kernel
theorem dX11_restoreSnapshot_5 : decode cX11_restoreSnapshot 5 = .ok (.iload_n 1, 1) := by decide +kernel
theorem dX11_restoreSnapshot_6 : decode cX11_restoreSnapshot 6 = .ok (.i2l, 1) := by decide +kernel
theorem dX11_restoreSnapshot_7 : decode cX11_restoreSnapshot 7 = .ok (.lconst 0, 1) := by decide +kernel
theorem dX11_restoreSnapshot_8 : decode cX11_restoreSnapshot 8 = .ok (.lconst 1, 1) := by decide +kernel
theorem dX11_restoreSnapshot_9 : decode cX11_restoreSnapshot 9 = .ok (.invokestatic 89, 3) := by decide +kernel
theorem dX11_restoreSnapshot_12 : decode cX11_restoreSnapshot 12 = .ok (.ifCond .eq 12, 3) := by decide +kernel
theorem dX11_restoreSnapshot_15 : decode cX11_restoreSnapshot 15 = .ok (.aload_n 0, 1) := by decide +kernel
theorem dX11_restoreSnapshot_16 : decode cX11_restoreSnapshot 16 = .ok (.getfield 39, 3) := by decide +kernel
theorem dX11_restoreSnapshot_19 : decode cX11_restoreSnapshot 19 = .ok (.iload_n 1, 1) := by decide +kernel
theorem dX11_restoreSnapshot_20 : decode cX11_restoreSnapshot 20 = .ok (.baload, 1) := by decide +kernel
theorem dX11_restoreSnapshot_21 : decode cX11_restoreSnapshot 21 = .ok (.ifCond .ne 5, 3) := by decide +kernel
theorem dX11_restoreSnapshot_24 : decode cX11_restoreSnapshot 24 = .ok (.iconst 0, 1) := by decide +kernel
theorem dX11_restoreSnapshot_25 : decode cX11_restoreSnapshot 25 = .ok (.ireturn, 1) := by decide +kernel
theorem dX11_restoreSnapshot_26 : decode cX11_restoreSnapshot 26 = .ok (.aload_n 0, 1) := by decide +kernel
theorem dX11_restoreSnapshot_27 : decode cX11_restoreSnapshot 27 = .ok (.getfield 33, 3) := by decide +kernel
theorem dX11_restoreSnapshot_30 : decode cX11_restoreSnapshot 30 = .ok (.aload_n 0, 1) := by decide +kernel
theorem dX11_restoreSnapshot_31 : decode cX11_restoreSnapshot 31 = .ok (.getfield 36, 3) := by decide +kernel
theorem dX11_restoreSnapshot_34 : decode cX11_restoreSnapshot 34 = .ok (.iload_n 1, 1) := by decide +kernel
theorem dX11_restoreSnapshot_35 : decode cX11_restoreSnapshot 35 = .ok (.aload_n 0, 1) := by decide +kernel
theorem dX11_restoreSnapshot_36 : decode cX11_restoreSnapshot 36 = .ok (.getfield 20, 3) := by decide +kernel
theorem dX11_restoreSnapshot_39 : decode cX11_restoreSnapshot 39 = .ok (.aload_n 0, 1) := by decide +kernel
theorem dX11_restoreSnapshot_40 : decode cX11_restoreSnapshot 40 = .ok (.getfield 23, 3) := by decide +kernel
theorem dX11_restoreSnapshot_43 : decode cX11_restoreSnapshot 43 = .ok (.iconst 0, 1) := by decide +kernel
theorem dX11_restoreSnapshot_44 : decode cX11_restoreSnapshot 44 = .ok (.invokestatic 165, 3) := by decide +kernel
theorem dX11_restoreSnapshot_47 : decode cX11_restoreSnapshot 47 = .ok (.aload_n 0, 1) := by decide +kernel
theorem dX11_restoreSnapshot_48 : decode cX11_restoreSnapshot 48 = .ok (.iconst 0, 1) := by decide +kernel
theorem dX11_restoreSnapshot_49 : decode cX11_restoreSnapshot 49 = .ok (.putfield 125, 3) := by decide +kernel
theorem dX11_restoreSnapshot_52 : decode cX11_restoreSnapshot 52 = .ok (.iconst 1, 1) := by decide +kernel
theorem dX11_restoreSnapshot_53 : decode cX11_restoreSnapshot 53 = .ok (.ireturn, 1) := by decide +kernel
theorem dJ9_abs_067f4_0 : decode cJ9_abs_067f4 0 = .ok (.lload_n 0, 1) := by decide +kernel
theorem dJ9_abs_067f4_1 : decode cJ9_abs_067f4 1 = .ok (.lconst 0, 1) := by decide +kernel
theorem dJ9_abs_067f4_2 : decode cJ9_abs_067f4 2 = .ok (.lcmp, 1) := by decide +kernel
theorem dJ9_abs_067f4_3 : decode cJ9_abs_067f4 3 = .ok (.ifCond .ge 8, 3) := by decide +kernel
theorem dJ9_abs_067f4_6 : decode cJ9_abs_067f4 6 = .ok (.lload_n 0, 1) := by decide +kernel
theorem dJ9_abs_067f4_7 : decode cJ9_abs_067f4 7 = .ok (.lneg, 1) := by decide +kernel
theorem dJ9_abs_067f4_8 : decode cJ9_abs_067f4 8 = .ok (.goto 4, 3) := by decide +kernel
theorem dJ9_abs_067f4_11 : decode cJ9_abs_067f4 11 = .ok (.lload_n 0, 1) := by decide +kernel
theorem dJ9_abs_067f4_12 : decode cJ9_abs_067f4 12 = .ok (.lreturn, 1) := by decide +kernel
theorem dJ9_max_7cf53_0 : decode cJ9_max_7cf53 0 = .ok (.iload_n 0, 1) := by decide +kernel
theorem dJ9_max_7cf53_1 : decode cJ9_max_7cf53 1 = .ok (.iload_n 1, 1) := by decide +kernel
theorem dJ9_max_7cf53_2 : decode cJ9_max_7cf53 2 = .ok (.if_icmp .lt 7, 3) := by decide +kernel
theorem dJ9_max_7cf53_5 : decode cJ9_max_7cf53 5 = .ok (.iload_n 0, 1) := by decide +kernel
theorem dJ9_max_7cf53_6 : decode cJ9_max_7cf53 6 = .ok (.goto 4, 3) := by decide +kernel
theorem dJ9_max_7cf53_9 : decode cJ9_max_7cf53 9 = .ok (.iload_n 1, 1) := by decide +kernel
theorem dJ9_max_7cf53_10 : decode cJ9_max_7cf53 10 = .ok (.ireturn, 1) := by decide +kernel
theorem dJ9_max_f86c9_0 : decode cJ9_max_f86c9 0 = .ok (.lload_n 0, 1) := by decide +kernel
theorem dJ9_max_f86c9_1 : decode cJ9_max_f86c9 1 = .ok (.lload_n 2, 1) := by decide +kernel
theorem dJ9_max_f86c9_2 : decode cJ9_max_f86c9 2 = .ok (.lcmp, 1) := by decide +kernel
theorem dJ9_max_f86c9_3 : decode cJ9_max_f86c9 3 = .ok (.ifCond .lt 7, 3) := by decide +kernel
theorem dJ9_max_f86c9_6 : decode cJ9_max_f86c9 6 = .ok (.lload_n 0, 1) := by decide +kernel
theorem dJ9_max_f86c9_7 : decode cJ9_max_f86c9 7 = .ok (.goto 4, 3) := by decide +kernel
theorem dJ9_max_f86c9_10 : decode cJ9_max_f86c9 10 = .ok (.lload_n 2, 1) := by decide +kernel
theorem dJ9_max_f86c9_11 : decode cJ9_max_f86c9 11 = .ok (.lreturn, 1) := by decide +kernel
theorem dJ9_min_7cf53_0 : decode cJ9_min_7cf53 0 = .ok (.iload_n 0, 1) := by decide +kernel
theorem dJ9_min_7cf53_1 : decode cJ9_min_7cf53 1 = .ok (.iload_n 1, 1) := by decide +kernel
theorem dJ9_min_7cf53_2 : decode cJ9_min_7cf53 2 = .ok (.if_icmp .gt 7, 3) := by decide +kernel
theorem dJ9_min_7cf53_5 : decode cJ9_min_7cf53 5 = .ok (.iload_n 0, 1) := by decide +kernel
theorem dJ9_min_7cf53_6 : decode cJ9_min_7cf53 6 = .ok (.goto 4, 3) := by decide +kernel
theorem dJ9_min_7cf53_9 : decode cJ9_min_7cf53 9 = .ok (.iload_n 1, 1) := by decide +kernel
theorem dJ9_min_7cf53_10 : decode cJ9_min_7cf53 10 = .ok (.ireturn, 1) := by decide +kernel
set_option maxRecDepth 20000 in
theorem ggJ0_length_8abf5_J0_coder_7d493 : GoodIn wsJ0_length_8abf5 wsJ0_coder_7d493 := goodIn_r _ [6, 7, 8] (by decide +kernel) (by decide +kernel)
set_option maxRecDepth 20000 in
theorem gJ0_length_8abf5_J0_coder_7d493 : GoodIn wsJ0_length_8abf5 (wsV RJ0 335 RJ0 yJ0_coder_7d493 wsJ0_coder_7d493) := goodIn_app (goodIn_of _ (by decide +kernel)) ggJ0_length_8abf5_J0_coder_7d493
theorem dJ0_length_8abf5_0 : decode cJ0_length_8abf5 0 = .ok (.aload_n 0, 1) := by decide +kernel
theorem dJ0_length_8abf5_1 : decode cJ0_length_8abf5 1 = .ok (.getfield 9, 3) := by decide +kernel
theorem dJ0_length_8abf5_4 : decode cJ0_length_8abf5 4 = .ok (.arraylength, 1) := by decide +kernel
theorem dJ0_length_8abf5_5 : decode cJ0_length_8abf5 5 = .ok (.aload_n 0, 1) := by decide +kernel
theorem dJ0_length_8abf5_6 : decode cJ0_length_8abf5 6 = .ok (.invokevirtual 335, 3) := by decide +kernel
theorem dJ0_length_8abf5_9 : decode cJ0_length_8abf5 9 = .ok (.ishr, 1) := by decide +kernel
theorem dJ0_length_8abf5_10 : decode cJ0_length_8abf5 10 = .ok (.ireturn, 1) := by decide +kernel
set_option maxRecDepth 20000 in
theorem ggJ0_charAt_5068e_J0_isLatin1_aae02 : GoodIn wsJ0_charAt_5068e wsJ0_isLatin1_aae02 := goodIn_r _ [6, 7, 8] (by decide +kernel) (by decide +kernel)
set_option maxRecDepth 20000 in
theorem gJ0_charAt_5068e_J0_isLatin1_aae02 : GoodIn wsJ0_charAt_5068e (wsV RJ0 492 RJ0 yJ0_isLatin1_aae02 wsJ0_isLatin1_aae02) := goodIn_app (goodIn_of _ (by decide +kernel)) ggJ0_charAt_5068e_J0_isLatin1_aae02
set_option maxRecDepth 20000 in
theorem ggJ0_charAt_5068e_J1_charAt_3b067 : GoodIn wsJ0_charAt_5068e wsJ1_charAt_3b067 := goodIn_r _ [12, 13, 14, 5, 15, 16, 17, 18, 19, 20] (by decide +kernel) (by decide +kernel)
set_option maxRecDepth 20000 in
theorem gJ0_charAt_5068e_J1_charAt_3b067 : GoodIn wsJ0_charAt_5068e (va_wsS RJ0 495 yJ1_charAt_3b067 wsJ1_charAt_3b067) := goodIn_app (goodIn_of _ (by decide +kernel)) ggJ0_charAt_5068e_J1_charAt_3b067
set_option maxRecDepth 20000 in
theorem ggJ0_charAt_5068e_J2_charAt_3b067 : GoodIn wsJ0_charAt_5068e wsJ2_charAt_3b067 := goodIn_r _ [24, 25, 26, 23, 27, 28, 29, 30, 31, 14, 5, 15, 16, 17, 18, 19, 20, 32, 33, 34, 35, 36, 37] (by decide +kernel) (by decide +kernel)
set_option maxRecDepth 20000 in
theorem gJ0_charAt_5068e_J2_charAt_3b067 : GoodIn wsJ0_charAt_5068e (va_wsS RJ0 498 yJ2_charAt_3b067 wsJ2_charAt_3b067) := goodIn_app (goodIn_of _ (by decide +kernel)) ggJ0_charAt_5068e_J2_charAt_3b067
theorem dJ0_charAt_5068e_0 : decode cJ0_charAt_5068e 0 = .ok (.aload_n 0, 1) := by decide +kernel
theorem dJ0_charAt_5068e_1 : decode cJ0_charAt_5068e 1 = .ok (.invokevirtual 492, 3) := by decide +kernel
theorem dJ0_charAt_5068e_4 : decode cJ0_charAt_5068e 4 = .ok (.ifCond .eq 12, 3) := by decide +kernel
theorem dJ0_charAt_5068e_7 : decode cJ0_charAt_5068e 7 = .ok (.aload_n 0, 1) := by decide +kernel
theorem dJ0_charAt_5068e_8 : decode cJ0_charAt_5068e 8 = .ok (.getfield 9, 3) := by decide +kernel
theorem dJ0_charAt_5068e_11 : decode cJ0_charAt_5068e 11 = .ok (.iload_n 1, 1) := by decide +kernel
theorem dJ0_charAt_5068e_12 : decode cJ0_charAt_5068e 12 = .ok (.invokestatic 495, 3) := by decide +kernel
theorem dJ0_charAt_5068e_15 : decode cJ0_charAt_5068e 15 = .ok (.ireturn, 1) := by decide +kernel
theorem dJ0_charAt_5068e_16 : decode cJ0_charAt_5068e 16 = .ok (.aload_n 0, 1) := by decide +kernel
theorem dJ0_charAt_5068e_17 : decode cJ0_charAt_5068e 17 = .ok (.getfield 9, 3) := by decide +kernel
theorem dJ0_charAt_5068e_20 : decode cJ0_charAt_5068e 20 = .ok (.iload_n 1, 1) := by decide +kernel
theorem dJ0_charAt_5068e_21 : decode cJ0_charAt_5068e 21 = .ok (.invokestatic 498, 3) := by decide +kernel
theorem dJ0_charAt_5068e_24 : decode cJ0_charAt_5068e 24 = .ok (.ireturn, 1) := by decide +kernel
theorem dJ0_coder_7d493_0 : decode cJ0_coder_7d493 0 = .ok (.getstatic 38, 3) := by decide +kernel
theorem dJ0_coder_7d493_3 : decode cJ0_coder_7d493 3 = .ok (.ifCond .eq 10, 3) := by decide +kernel
theorem dJ0_coder_7d493_6 : decode cJ0_coder_7d493 6 = .ok (.aload_n 0, 1) := by decide +kernel
theorem dJ0_coder_7d493_7 : decode cJ0_coder_7d493 7 = .ok (.getfield 15, 3) := by decide +kernel
theorem dJ0_coder_7d493_10 : decode cJ0_coder_7d493 10 = .ok (.goto 4, 3) := by decide +kernel
theorem dJ0_coder_7d493_13 : decode cJ0_coder_7d493 13 = .ok (.iconst 1, 1) := by decide +kernel
theorem dJ0_coder_7d493_14 : decode cJ0_coder_7d493 14 = .ok (.ireturn, 1) := by decide +kernel
theorem dJ0_isLatin1_aae02_0 : decode cJ0_isLatin1_aae02 0 = .ok (.getstatic 38, 3) := by decide +kernel
theorem dJ0_isLatin1_aae02_3 : decode cJ0_isLatin1_aae02 3 = .ok (.ifCond .eq 14, 3) := by decide +kernel
theorem dJ0_isLatin1_aae02_6 : decode cJ0_isLatin1_aae02 6 = .ok (.aload_n 0, 1) := by decide +kernel
theorem dJ0_isLatin1_aae02_7 : decode cJ0_isLatin1_aae02 7 = .ok (.getfield 15, 3) := by decide +kernel
theorem dJ0_isLatin1_aae02_10 : decode cJ0_isLatin1_aae02 10 = .ok (.ifCond .ne 7, 3) := by decide +kernel
theorem dJ0_isLatin1_aae02_13 : decode cJ0_isLatin1_aae02 13 = .ok (.iconst 1, 1) := by decide +kernel
theorem dJ0_isLatin1_aae02_14 : decode cJ0_isLatin1_aae02 14 = .ok (.goto 4, 3) := by decide +kernel
theorem dJ0_isLatin1_aae02_17 : decode cJ0_isLatin1_aae02 17 = .ok (.iconst 0, 1) := by decide +kernel
theorem dJ0_isLatin1_aae02_18 : decode cJ0_isLatin1_aae02 18 = .ok (.ireturn, 1) := by decide +kernel
set_option maxRecDepth 20000 in
theorem ggJ0_checkIndex_df160_J3_checkIndex_8e157 : GoodIn wsJ0_checkIndex_df160 wsJ3_checkIndex_8e157 := goodIn_r _ [5] (by decide +kernel) (by decide +kernel)
set_option maxRecDepth 20000 in
theorem gJ0_checkIndex_df160_J3_checkIndex_8e157 : GoodIn wsJ0_checkIndex_df160 (va_wsS RJ0 1059 yJ3_checkIndex_8e157 wsJ3_checkIndex_8e157) := goodIn_app (goodIn_of _ (by decide +kernel)) ggJ0_checkIndex_df160_J3_checkIndex_8e157
theorem dJ0_checkIndex_df160_0 : decode cJ0_checkIndex_df160 0 = .ok (.iload_n 0, 1) := by decide +kernel
theorem dJ0_checkIndex_df160_1 : decode cJ0_checkIndex_df160 1 = .ok (.iload_n 1, 1) := by decide +kernel
theorem dJ0_checkIndex_df160_2 : decode cJ0_checkIndex_df160 2 = .ok (.getstatic 1053, 3) := by decide +kernel
theorem dJ0_checkIndex_df160_5 : decode cJ0_checkIndex_df160 5 = .ok (.invokestatic 1059, 3) := by decide +kernel
theorem dJ0_checkIndex_df160_8 : decode cJ0_checkIndex_df160 8 = .ok (.pop, 1) := by decide +kernel
theorem dJ0_checkIndex_df160_9 : decode cJ0_checkIndex_df160 9 = .ok (.return_, 1) := by decide +kernel
set_option maxRecDepth 20000 in
theorem ggJ1_charAt_3b067_J0_checkIndex_df160 : GoodIn wsJ1_charAt_3b067 wsJ0_checkIndex_df160 := goodIn_r _ [4, 5, 6, 7, 8, 9] (by decide +kernel) (by decide +kernel)
set_option maxRecDepth 20000 in
theorem gJ1_charAt_3b067_J0_checkIndex_df160 : GoodIn wsJ1_charAt_3b067 (va_wsS RJ1 9 yJ0_checkIndex_df160 wsJ0_checkIndex_df160) := goodIn_app (goodIn_of _ (by decide +kernel)) ggJ1_charAt_3b067_J0_checkIndex_df160
theorem dJ1_charAt_3b067_0 : decode cJ1_charAt_3b067 0 = .ok (.iload_n 1, 1) := by decide +kernel
theorem dJ1_charAt_3b067_1 : decode cJ1_charAt_3b067 1 = .ok (.aload_n 0, 1) := by decide +kernel
theorem dJ1_charAt_3b067_2 : decode cJ1_charAt_3b067 2 = .ok (.arraylength, 1) := by decide +kernel
theorem dJ1_charAt_3b067_3 : decode cJ1_charAt_3b067 3 = .ok (.invokestatic 9, 3) := by decide +kernel
theorem dJ1_charAt_3b067_6 : decode cJ1_charAt_3b067 6 = .ok (.aload_n 0, 1) := by decide +kernel
theorem dJ1_charAt_3b067_7 : decode cJ1_charAt_3b067 7 = .ok (.iload_n 1, 1) := by decide +kernel
theorem dJ1_charAt_3b067_8 : decode cJ1_charAt_3b067 8 = .ok (.baload, 1) := by decide +kernel
theorem dJ1_charAt_3b067_9 : decode cJ1_charAt_3b067 9 = .ok (.sipush 255, 3) := by decide +kernel
theorem dJ1_charAt_3b067_12 : decode cJ1_charAt_3b067 12 = .ok (.iand, 1) := by decide +kernel
theorem dJ1_charAt_3b067_13 : decode cJ1_charAt_3b067 13 = .ok (.i2c, 1) := by decide +kernel
theorem dJ1_charAt_3b067_14 : decode cJ1_charAt_3b067 14 = .ok (.ireturn, 1) := by decide +kernel
set_option maxRecDepth 20000 in
theorem ggJ2_getChar_3b067_J2_length_9d52b : GoodIn wsJ2_getChar_3b067 wsJ2_length_9d52b := goodIn_r _ [7] (by decide +kernel) (by decide +kernel)
set_option maxRecDepth 20000 in
theorem gJ2_getChar_3b067_J2_length_9d52b : GoodIn wsJ2_getChar_3b067 (va_wsS RJ2 48 yJ2_length_9d52b wsJ2_length_9d52b) := goodIn_app (goodIn_of _ (by decide +kernel)) ggJ2_getChar_3b067_J2_length_9d52b
theorem dJ2_getChar_3b067_0 : decode cJ2_getChar_3b067 0 = .ok (.getstatic 44, 3) := by decide +kernel
theorem dJ2_getChar_3b067_3 : decode cJ2_getChar_3b067 3 = .ok (.ifCond .ne 25, 3) := by decide +kernel
theorem dJ2_getChar_3b067_6 : decode cJ2_getChar_3b067 6 = .ok (.iload_n 1, 1) := by decide +kernel
theorem dJ2_getChar_3b067_7 : decode cJ2_getChar_3b067 7 = .ok (.ifCond .lt 11, 3) := by decide +kernel
theorem dJ2_getChar_3b067_10 : decode cJ2_getChar_3b067 10 = .ok (.iload_n 1, 1) := by decide +kernel
theorem dJ2_getChar_3b067_11 : decode cJ2_getChar_3b067 11 = .ok (.aload_n 0, 1) := by decide +kernel
theorem dJ2_getChar_3b067_12 : decode cJ2_getChar_3b067 12 = .ok (.invokestatic 48, 3) := by decide +kernel
theorem dJ2_getChar_3b067_15 : decode cJ2_getChar_3b067 15 = .ok (.if_icmp .lt 13, 3) := by decide +kernel
theorem dJ2_getChar_3b067_18 : decode cJ2_getChar_3b067 18 = .ok (.new 52, 3) := by decide +kernel
theorem dJ2_getChar_3b067_21 : decode cJ2_getChar_3b067 21 = .ok (.dup, 1) := by decide +kernel
theorem dJ2_getChar_3b067_22 : decode cJ2_getChar_3b067 22 = .ok (.ldc 54, 2) := by decide +kernel
theorem dJ2_getChar_3b067_24 : decode cJ2_getChar_3b067 24 = .ok (.invokespecial 56, 3) := by decide +kernel
theorem dJ2_getChar_3b067_27 : decode cJ2_getChar_3b067 27 = .ok (.athrow, 1) := by decide +kernel
theorem dJ2_getChar_3b067_28 : decode cJ2_getChar_3b067 28 = .ok (.iload_n 1, 1) := by decide +kernel
theorem dJ2_getChar_3b067_29 : decode cJ2_getChar_3b067 29 = .ok (.iconst 1, 1) := by decide +kernel
theorem dJ2_getChar_3b067_30 : decode cJ2_getChar_3b067 30 = .ok (.ishl, 1) := by decide +kernel
theorem dJ2_getChar_3b067_31 : decode cJ2_getChar_3b067 31 = .ok (.istore_n 1, 1) := by decide +kernel
theorem dJ2_getChar_3b067_32 : decode cJ2_getChar_3b067 32 = .ok (.aload_n 0, 1) := by decide +kernel
theorem dJ2_getChar_3b067_33 : decode cJ2_getChar_3b067 33 = .ok (.iload_n 1, 1) := by decide +kernel
theorem dJ2_getChar_3b067_34 : decode cJ2_getChar_3b067 34 = .ok (.iinc 1 1, 3) := by decide +kernel
theorem dJ2_getChar_3b067_37 : decode cJ2_getChar_3b067 37 = .ok (.baload, 1) := by decide +kernel
theorem dJ2_getChar_3b067_38 : decode cJ2_getChar_3b067 38 = .ok (.sipush 255, 3) := by decide +kernel
theorem dJ2_getChar_3b067_41 : decode cJ2_getChar_3b067 41 = .ok (.iand, 1) := by decide +kernel
theorem dJ2_getChar_3b067_42 : decode cJ2_getChar_3b067 42 = .ok (.getstatic 59, 3) := by decide +kernel
theorem dJ2_getChar_3b067_45 : decode cJ2_getChar_3b067 45 = .ok (.ishl, 1) := by decide +kernel
theorem dJ2_getChar_3b067_46 : decode cJ2_getChar_3b067 46 = .ok (.aload_n 0, 1) := by decide +kernel
theorem dJ2_getChar_3b067_47 : decode cJ2_getChar_3b067 47 = .ok (.iload_n 1, 1) := by decide +kernel
theorem dJ2_getChar_3b067_48 : decode cJ2_getChar_3b067 48 = .ok (.baload, 1) := by decide +kernel
theorem dJ2_getChar_3b067_49 : decode cJ2_getChar_3b067 49 = .ok (.sipush 255, 3) := by decide +kernel
theorem dJ2_getChar_3b067_52 : decode cJ2_getChar_3b067 52 = .ok (.iand, 1) := by decide +kernel
theorem dJ2_getChar_3b067_53 : decode cJ2_getChar_3b067 53 = .ok (.getstatic 63, 3) := by decide +kernel
theorem dJ2_getChar_3b067_56 : decode cJ2_getChar_3b067 56 = .ok (.ishl, 1) := by decide +kernel
theorem dJ2_getChar_3b067_57 : decode cJ2_getChar_3b067 57 = .ok (.ior, 1) := by decide +kernel
theorem dJ2_getChar_3b067_58 : decode cJ2_getChar_3b067 58 = .ok (.i2c, 1) := by decide +kernel
theorem dJ2_getChar_3b067_59 : decode cJ2_getChar_3b067 59 = .ok (.ireturn, 1) := by decide +kernel
theorem dJ2_length_9d52b_0 : decode cJ2_length_9d52b 0 = .ok (.aload_n 0, 1) := by decide +kernel
theorem dJ2_length_9d52b_1 : decode cJ2_length_9d52b 1 = .ok (.arraylength, 1) := by decide +kernel
theorem dJ2_length_9d52b_2 : decode cJ2_length_9d52b 2 = .ok (.iconst 1, 1) := by decide +kernel
theorem dJ2_length_9d52b_3 : decode cJ2_length_9d52b 3 = .ok (.ishr, 1) := by decide +kernel
theorem dJ2_length_9d52b_4 : decode cJ2_length_9d52b 4 = .ok (.ireturn, 1) := by decide +kernel
set_option maxRecDepth 20000 in
theorem ggJ2_charAt_3b067_J2_checkIndex_2214a : GoodIn wsJ2_charAt_3b067 wsJ2_checkIndex_2214a := goodIn_r _ [4, 5, 6, 3, 7, 8, 9, 10, 11, 12, 13, 14, 15, 16] (by decide +kernel) (by decide +kernel)
set_option maxRecDepth 20000 in
theorem gJ2_charAt_3b067_J2_checkIndex_2214a : GoodIn wsJ2_charAt_3b067 (va_wsS RJ2 67 yJ2_checkIndex_2214a wsJ2_checkIndex_2214a) := goodIn_app (goodIn_of _ (by decide +kernel)) ggJ2_charAt_3b067_J2_checkIndex_2214a
set_option maxRecDepth 20000 in
theorem ggJ2_charAt_3b067_J2_getChar_3b067 : GoodIn wsJ2_charAt_3b067 wsJ2_getChar_3b067 := goodIn_r _ [19, 20, 21, 22, 5, 6, 3, 7] (by decide +kernel) (by decide +kernel)
set_option maxRecDepth 20000 in
theorem gJ2_charAt_3b067_J2_getChar_3b067 : GoodIn wsJ2_charAt_3b067 (va_wsS RJ2 71 yJ2_getChar_3b067 wsJ2_getChar_3b067) := goodIn_app (goodIn_of _ (by decide +kernel)) ggJ2_charAt_3b067_J2_getChar_3b067
theorem dJ2_charAt_3b067_0 : decode cJ2_charAt_3b067 0 = .ok (.iload_n 1, 1) := by decide +kernel
theorem dJ2_charAt_3b067_1 : decode cJ2_charAt_3b067 1 = .ok (.aload_n 0, 1) := by decide +kernel
theorem dJ2_charAt_3b067_2 : decode cJ2_charAt_3b067 2 = .ok (.invokestatic 67, 3) := by decide +kernel
theorem dJ2_charAt_3b067_5 : decode cJ2_charAt_3b067 5 = .ok (.aload_n 0, 1) := by decide +kernel
theorem dJ2_charAt_3b067_6 : decode cJ2_charAt_3b067 6 = .ok (.iload_n 1, 1) := by decide +kernel
theorem dJ2_charAt_3b067_7 : decode cJ2_charAt_3b067 7 = .ok (.invokestatic 71, 3) := by decide +kernel
theorem dJ2_charAt_3b067_10 : decode cJ2_charAt_3b067 10 = .ok (.ireturn, 1) := by decide +kernel
set_option maxRecDepth 20000 in
theorem ggJ2_checkIndex_2214a_J2_length_9d52b : GoodIn wsJ2_checkIndex_2214a wsJ2_length_9d52b := goodIn_r _ [4] (by decide +kernel) (by decide +kernel)
set_option maxRecDepth 20000 in
theorem gJ2_checkIndex_2214a_J2_length_9d52b : GoodIn wsJ2_checkIndex_2214a (va_wsS RJ2 48 yJ2_length_9d52b wsJ2_length_9d52b) := goodIn_app (goodIn_of _ (by decide +kernel)) ggJ2_checkIndex_2214a_J2_length_9d52b
set_option maxRecDepth 20000 in
theorem ggJ2_checkIndex_2214a_J0_checkIndex_df160 : GoodIn wsJ2_checkIndex_2214a wsJ0_checkIndex_df160 := goodIn_r _ [8, 9, 10, 11, 12, 13] (by decide +kernel) (by decide +kernel)
set_option maxRecDepth 20000 in
theorem gJ2_checkIndex_2214a_J0_checkIndex_df160 : GoodIn wsJ2_checkIndex_2214a (va_wsS RJ2 414 yJ0_checkIndex_df160 wsJ0_checkIndex_df160) := goodIn_app (goodIn_of _ (by decide +kernel)) ggJ2_checkIndex_2214a_J0_checkIndex_df160
theorem dJ2_checkIndex_2214a_0 : decode cJ2_checkIndex_2214a 0 = .ok (.iload_n 0, 1) := by decide +kernel
theorem dJ2_checkIndex_2214a_1 : decode cJ2_checkIndex_2214a 1 = .ok (.aload_n 1, 1) := by decide +kernel
theorem dJ2_checkIndex_2214a_2 : decode cJ2_checkIndex_2214a 2 = .ok (.invokestatic 48, 3) := by decide +kernel
theorem dJ2_checkIndex_2214a_5 : decode cJ2_checkIndex_2214a 5 = .ok (.invokestatic 414, 3) := by decide +kernel
theorem dJ2_checkIndex_2214a_8 : decode cJ2_checkIndex_2214a 8 = .ok (.return_, 1) := by decide +kernel
theorem dJ3_checkIndex_8e157_0 : decode cJ3_checkIndex_8e157 0 = .ok (.iload_n 0, 1) := by decide +kernel
theorem dJ3_checkIndex_8e157_1 : decode cJ3_checkIndex_8e157 1 = .ok (.ifCond .lt 8, 3) := by decide +kernel
theorem dJ3_checkIndex_8e157_4 : decode cJ3_checkIndex_8e157 4 = .ok (.iload_n 0, 1) := by decide +kernel
theorem dJ3_checkIndex_8e157_5 : decode cJ3_checkIndex_8e157 5 = .ok (.iload_n 1, 1) := by decide +kernel
theorem dJ3_checkIndex_8e157_6 : decode cJ3_checkIndex_8e157 6 = .ok (.if_icmp .lt 10, 3) := by decide +kernel
theorem dJ3_checkIndex_8e157_9 : decode cJ3_checkIndex_8e157 9 = .ok (.aload_n 2, 1) := by decide +kernel
theorem dJ3_checkIndex_8e157_10 : decode cJ3_checkIndex_8e157 10 = .ok (.iload_n 0, 1) := by decide +kernel
theorem dJ3_checkIndex_8e157_11 : decode cJ3_checkIndex_8e157 11 = .ok (.iload_n 1, 1) := by decide +kernel
theorem dJ3_checkIndex_8e157_12 : decode cJ3_checkIndex_8e157 12 = .ok (.invokestatic 95, 3) := by decide +kernel
theorem dJ3_checkIndex_8e157_15 : decode cJ3_checkIndex_8e157 15 = .ok (.athrow, 1) := by decide +kernel
theorem dJ3_checkIndex_8e157_16 : decode cJ3_checkIndex_8e157 16 = .ok (.iload_n 0, 1) := by decide +kernel
theorem dJ3_checkIndex_8e157_17 : decode cJ3_checkIndex_8e157 17 = .ok (.ireturn, 1) := by decide +kernel
abbrev vwCl : List vw_C := [(RX0, TX0, 3), (RX1, TX1, 0), (RX2, TX2, 12), (RX3, TX3, 11), (RX4, TX4, 3), (RX5, TX5, 1), (RX6, TX6, 3), (RX7, TX7, 9), (RX8, TX8, 3), (RX9, TX9, 14), (RX10, TX10, 7), (RX11, TX11, 24)]
