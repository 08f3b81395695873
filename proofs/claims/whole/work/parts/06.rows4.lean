set_option maxRecDepth 20000 in
theorem gX12_readLine_X12_scan : GoodIn wsX12_readLine (wsV RX12 66 RX12 yX12_scan wsX12_scan) := goodIn_app (goodIn_of _ (by decide +kernel)) ggX12_readLine_X12_scan
theorem dX12_readLine_0 : decode cX12_readLine 0 = .ok (.iload_n 1, 1) := by decide +kernel
theorem dX12_readLine_1 : decode cX12_readLine 1 = .ok (.tableswitch 201 0 6 #[43, 59, 75, 90, 106, 157, 185], 43) := by decide +kernel
theorem dX12_readLine_44 : decode cX12_readLine 44 = .ok (.aload_n 0, 1) := by decide +kernel
theorem dX12_readLine_45 : decode cX12_readLine 45 = .ok (.getfield 90, 3) := by decide +kernel
theorem dX12_readLine_48 : decode cX12_readLine 48 = .ok (.iconst 0, 1) := by decide +kernel
theorem dX12_readLine_49 : decode cX12_readLine 49 = .ok (.aload_n 0, 1) := by decide +kernel
theorem dX12_readLine_50 : decode cX12_readLine 50 = .ok (.sipush 999, 3) := by decide +kernel
theorem dX12_readLine_53 : decode cX12_readLine 53 = .ok (.invokevirtual 109, 3) := by decide +kernel
theorem dX12_readLine_56 : decode cX12_readLine 56 = .ok (.iastore, 1) := by decide +kernel
theorem dX12_readLine_57 : decode cX12_readLine 57 = .ok (.goto 206, 3) := by decide +kernel
theorem dX12_readLine_60 : decode cX12_readLine 60 = .ok (.aload_n 0, 1) := by decide +kernel
theorem dX12_readLine_61 : decode cX12_readLine 61 = .ok (.getfield 90, 3) := by decide +kernel
theorem dX12_readLine_64 : decode cX12_readLine 64 = .ok (.iconst 1, 1) := by decide +kernel
theorem dX12_readLine_65 : decode cX12_readLine 65 = .ok (.aload_n 0, 1) := by decide +kernel
theorem dX12_readLine_66 : decode cX12_readLine 66 = .ok (.sipush 999, 3) := by decide +kernel
theorem dX12_readLine_69 : decode cX12_readLine 69 = .ok (.invokevirtual 109, 3) := by decide +kernel
theorem dX12_readLine_72 : decode cX12_readLine 72 = .ok (.iastore, 1) := by decide +kernel
theorem dX12_readLine_73 : decode cX12_readLine 73 = .ok (.goto 190, 3) := by decide +kernel
theorem dX12_readLine_76 : decode cX12_readLine 76 = .ok (.aload_n 0, 1) := by decide +kernel
theorem dX12_readLine_77 : decode cX12_readLine 77 = .ok (.getfield 90, 3) := by decide +kernel
theorem dX12_readLine_80 : decode cX12_readLine 80 = .ok (.iconst 2, 1) := by decide +kernel
theorem dX12_readLine_81 : decode cX12_readLine 81 = .ok (.aload_n 0, 1) := by decide +kernel
theorem dX12_readLine_82 : decode cX12_readLine 82 = .ok (.bipush 6, 2) := by decide +kernel
theorem dX12_readLine_84 : decode cX12_readLine 84 = .ok (.invokevirtual 109, 3) := by decide +kernel
theorem dX12_readLine_87 : decode cX12_readLine 87 = .ok (.iastore, 1) := by decide +kernel
theorem dX12_readLine_88 : decode cX12_readLine 88 = .ok (.goto 175, 3) := by decide +kernel
theorem dX12_readLine_91 : decode cX12_readLine 91 = .ok (.aload_n 0, 1) := by decide +kernel
theorem dX12_readLine_92 : decode cX12_readLine 92 = .ok (.getfield 90, 3) := by decide +kernel
theorem dX12_readLine_95 : decode cX12_readLine 95 = .ok (.iconst 3, 1) := by decide +kernel
theorem dX12_readLine_96 : decode cX12_readLine 96 = .ok (.aload_n 0, 1) := by decide +kernel
theorem dX12_readLine_97 : decode cX12_readLine 97 = .ok (.sipush 999, 3) := by decide +kernel
theorem dX12_readLine_100 : decode cX12_readLine 100 = .ok (.invokevirtual 109, 3) := by decide +kernel
theorem dX12_readLine_103 : decode cX12_readLine 103 = .ok (.iastore, 1) := by decide +kernel
theorem dX12_readLine_104 : decode cX12_readLine 104 = .ok (.goto 159, 3) := by decide +kernel
theorem dX12_readLine_107 : decode cX12_readLine 107 = .ok (.aload_n 0, 1) := by decide +kernel
theorem dX12_readLine_108 : decode cX12_readLine 108 = .ok (.ldc 112, 2) := by decide +kernel
theorem dX12_readLine_110 : decode cX12_readLine 110 = .ok (.invokevirtual 72, 3) := by decide +kernel
theorem dX12_readLine_113 : decode cX12_readLine 113 = .ok (.ifCond .ne 18, 3) := by decide +kernel
theorem dX12_readLine_116 : decode cX12_readLine 116 = .ok (.aload_n 0, 1) := by decide +kernel
theorem dX12_readLine_117 : decode cX12_readLine 117 = .ok (.ldc 114, 2) := by decide +kernel
theorem dX12_readLine_119 : decode cX12_readLine 119 = .ok (.invokevirtual 72, 3) := by decide +kernel
theorem dX12_readLine_122 : decode cX12_readLine 122 = .ok (.ifCond .ne 9, 3) := by decide +kernel
theorem dX12_readLine_125 : decode cX12_readLine 125 = .ok (.aload_n 0, 1) := by decide +kernel
theorem dX12_readLine_126 : decode cX12_readLine 126 = .ok (.iconst 1, 1) := by decide +kernel
theorem dX12_readLine_127 : decode cX12_readLine 127 = .ok (.invokevirtual 62, 3) := by decide +kernel
theorem dX12_readLine_130 : decode cX12_readLine 130 = .ok (.athrow, 1) := by decide +kernel
theorem dX12_readLine_131 : decode cX12_readLine 131 = .ok (.aload_n 0, 1) := by decide +kernel
theorem dX12_readLine_132 : decode cX12_readLine 132 = .ok (.getfield 90, 3) := by decide +kernel
theorem dX12_readLine_135 : decode cX12_readLine 135 = .ok (.iconst 4, 1) := by decide +kernel
theorem dX12_readLine_136 : decode cX12_readLine 136 = .ok (.aload_n 0, 1) := by decide +kernel
theorem dX12_readLine_137 : decode cX12_readLine 137 = .ok (.ldc 112, 2) := by decide +kernel
theorem dX12_readLine_139 : decode cX12_readLine 139 = .ok (.invokevirtual 72, 3) := by decide +kernel
theorem dX12_readLine_142 : decode cX12_readLine 142 = .ok (.ifCond .eq 7, 3) := by decide +kernel
theorem dX12_readLine_145 : decode cX12_readLine 145 = .ok (.iconst 1, 1) := by decide +kernel
theorem dX12_readLine_146 : decode cX12_readLine 146 = .ok (.goto 4, 3) := by decide +kernel
theorem dX12_readLine_149 : decode cX12_readLine 149 = .ok (.iconst 0, 1) := by decide +kernel
theorem dX12_readLine_150 : decode cX12_readLine 150 = .ok (.iastore, 1) := by decide +kernel
theorem dX12_readLine_151 : decode cX12_readLine 151 = .ok (.aload_n 0, 1) := by decide +kernel
theorem dX12_readLine_152 : decode cX12_readLine 152 = .ok (.invokevirtual 66, 3) := by decide +kernel
theorem dX12_readLine_155 : decode cX12_readLine 155 = .ok (.goto 108, 3) := by decide +kernel
theorem dX12_readLine_158 : decode cX12_readLine 158 = .ok (.aload_n 0, 1) := by decide +kernel
theorem dX12_readLine_159 : decode cX12_readLine 159 = .ok (.getfield 90, 3) := by decide +kernel
theorem dX12_readLine_162 : decode cX12_readLine 162 = .ok (.iconst 5, 1) := by decide +kernel
theorem dX12_readLine_163 : decode cX12_readLine 163 = .ok (.aload_n 0, 1) := by decide +kernel
theorem dX12_readLine_164 : decode cX12_readLine 164 = .ok (.bipush 99, 2) := by decide +kernel
theorem dX12_readLine_166 : decode cX12_readLine 166 = .ok (.invokevirtual 109, 3) := by decide +kernel
theorem dX12_readLine_169 : decode cX12_readLine 169 = .ok (.iastore, 1) := by decide +kernel
theorem dX12_readLine_170 : decode cX12_readLine 170 = .ok (.aload_n 0, 1) := by decide +kernel
theorem dX12_readLine_171 : decode cX12_readLine 171 = .ok (.getfield 90, 3) := by decide +kernel
theorem dX12_readLine_174 : decode cX12_readLine 174 = .ok (.bipush 6, 2) := by decide +kernel
theorem dX12_readLine_176 : decode cX12_readLine 176 = .ok (.aload_n 0, 1) := by decide +kernel
theorem dX12_readLine_177 : decode cX12_readLine 177 = .ok (.bipush 100, 2) := by decide +kernel
theorem dX12_readLine_179 : decode cX12_readLine 179 = .ok (.invokevirtual 109, 3) := by decide +kernel
theorem dX12_readLine_182 : decode cX12_readLine 182 = .ok (.iastore, 1) := by decide +kernel
theorem dX12_readLine_183 : decode cX12_readLine 183 = .ok (.goto 80, 3) := by decide +kernel
theorem dX12_readLine_186 : decode cX12_readLine 186 = .ok (.aload_n 0, 1) := by decide +kernel
theorem dX12_readLine_187 : decode cX12_readLine 187 = .ok (.getfield 90, 3) := by decide +kernel
theorem dX12_readLine_190 : decode cX12_readLine 190 = .ok (.bipush 7, 2) := by decide +kernel
theorem dX12_readLine_192 : decode cX12_readLine 192 = .ok (.aload_n 0, 1) := by decide +kernel
theorem dX12_readLine_193 : decode cX12_readLine 193 = .ok (.bipush 100, 2) := by decide +kernel
theorem dX12_readLine_195 : decode cX12_readLine 195 = .ok (.invokevirtual 109, 3) := by decide +kernel
theorem dX12_readLine_198 : decode cX12_readLine 198 = .ok (.iastore, 1) := by decide +kernel
theorem dX12_readLine_199 : decode cX12_readLine 199 = .ok (.goto 64, 3) := by decide +kernel
theorem dX12_readLine_202 : decode cX12_readLine 202 = .ok (.aload_n 0, 1) := by decide +kernel
theorem dX12_readLine_203 : decode cX12_readLine 203 = .ok (.getfield 39, 3) := by decide +kernel
theorem dX12_readLine_206 : decode cX12_readLine 206 = .ok (.iconst 2, 1) := by decide +kernel
theorem dX12_readLine_207 : decode cX12_readLine 207 = .ok (.if_icmp .ne 34, 3) := by decide +kernel
theorem dX12_readLine_210 : decode cX12_readLine 210 = .ok (.aload_n 0, 1) := by decide +kernel
theorem dX12_readLine_211 : decode cX12_readLine 211 = .ok (.getfield 49, 3) := by decide +kernel
theorem dX12_readLine_214 : decode cX12_readLine 214 = .ok (.bipush 8, 2) := by decide +kernel
theorem dX12_readLine_216 : decode cX12_readLine 216 = .ok (.if_icmp .ge 25, 3) := by decide +kernel
theorem dX12_readLine_219 : decode cX12_readLine 219 = .ok (.aload_n 0, 1) := by decide +kernel
theorem dX12_readLine_220 : decode cX12_readLine 220 = .ok (.getfield 90, 3) := by decide +kernel
theorem dX12_readLine_223 : decode cX12_readLine 223 = .ok (.bipush 10, 2) := by decide +kernel
theorem dX12_readLine_225 : decode cX12_readLine 225 = .ok (.aload_n 0, 1) := by decide +kernel
theorem dX12_readLine_226 : decode cX12_readLine 226 = .ok (.getfield 49, 3) := by decide +kernel
theorem dX12_readLine_229 : decode cX12_readLine 229 = .ok (.iadd, 1) := by decide +kernel
theorem dX12_readLine_230 : decode cX12_readLine 230 = .ok (.iaload, 1) := by decide +kernel
theorem dX12_readLine_231 : decode cX12_readLine 231 = .ok (.iconst (-1), 1) := by decide +kernel
theorem dX12_readLine_232 : decode cX12_readLine 232 = .ok (.if_icmp .eq 9, 3) := by decide +kernel
theorem dX12_readLine_235 : decode cX12_readLine 235 = .ok (.aload_n 0, 1) := by decide +kernel
theorem dX12_readLine_236 : decode cX12_readLine 236 = .ok (.iconst 3, 1) := by decide +kernel
theorem dX12_readLine_237 : decode cX12_readLine 237 = .ok (.invokevirtual 62, 3) := by decide +kernel
theorem dX12_readLine_240 : decode cX12_readLine 240 = .ok (.athrow, 1) := by decide +kernel
theorem dX12_readLine_241 : decode cX12_readLine 241 = .ok (.aload_n 0, 1) := by decide +kernel
theorem dX12_readLine_242 : decode cX12_readLine 242 = .ok (.bipush 7, 2) := by decide +kernel
theorem dX12_readLine_244 : decode cX12_readLine 244 = .ok (.invokevirtual 109, 3) := by decide +kernel
theorem dX12_readLine_247 : decode cX12_readLine 247 = .ok (.istore_n 2, 1) := by decide +kernel
theorem dX12_readLine_248 : decode cX12_readLine 248 = .ok (.aload_n 0, 1) := by decide +kernel
theorem dX12_readLine_249 : decode cX12_readLine 249 = .ok (.getfield 90, 3) := by decide +kernel
theorem dX12_readLine_252 : decode cX12_readLine 252 = .ok (.bipush 10, 2) := by decide +kernel
theorem dX12_readLine_254 : decode cX12_readLine 254 = .ok (.iload_n 2, 1) := by decide +kernel
theorem dX12_readLine_255 : decode cX12_readLine 255 = .ok (.iadd, 1) := by decide +kernel
theorem dX12_readLine_256 : decode cX12_readLine 256 = .ok (.aload_n 0, 1) := by decide +kernel
theorem dX12_readLine_257 : decode cX12_readLine 257 = .ok (.bipush 99, 2) := by decide +kernel
theorem dX12_readLine_259 : decode cX12_readLine 259 = .ok (.invokevirtual 109, 3) := by decide +kernel
theorem dX12_readLine_262 : decode cX12_readLine 262 = .ok (.iastore, 1) := by decide +kernel
theorem dX12_readLine_263 : decode cX12_readLine 263 = .ok (.return_, 1) := by decide +kernel
theorem dX12_begin_0 : decode cX12_begin 0 = .ok (.aload_n 0, 1) := by decide +kernel
theorem dX12_begin_1 : decode cX12_begin 1 = .ok (.aload_n 0, 1) := by decide +kernel
theorem dX12_begin_2 : decode cX12_begin 2 = .ok (.getfield 116, 3) := by decide +kernel
theorem dX12_begin_5 : decode cX12_begin 5 = .ok (.putfield 25, 3) := by decide +kernel
theorem dX12_begin_8 : decode cX12_begin 8 = .ok (.aload_n 0, 1) := by decide +kernel
theorem dX12_begin_9 : decode cX12_begin 9 = .ok (.iconst 0, 1) := by decide +kernel
theorem dX12_begin_10 : decode cX12_begin 10 = .ok (.putfield 116, 3) := by decide +kernel
theorem dX12_begin_13 : decode cX12_begin 13 = .ok (.aload_n 0, 1) := by decide +kernel
theorem dX12_begin_14 : decode cX12_begin 14 = .ok (.iconst 0, 1) := by decide +kernel
theorem dX12_begin_15 : decode cX12_begin 15 = .ok (.putfield 32, 3) := by decide +kernel
theorem dX12_begin_18 : decode cX12_begin 18 = .ok (.return_, 1) := by decide +kernel
set_option maxRecDepth 20000 in
theorem ggX12_init_X11_init : GoodIn wsX12_init wsX11_init := goodIn_r _ [48] (by decide +kernel) (by decide +kernel)
set_option maxRecDepth 20000 in
theorem gX12_init_X11_init : GoodIn wsX12_init (wsX11_init) := ggX12_init_X11_init
set_option maxRecDepth 20000 in
theorem ggX12_init_X12_plain : GoodIn wsX12_init wsX12_plain := goodIn_r _ [52] (by decide +kernel) (by decide +kernel)
set_option maxRecDepth 20000 in
theorem gX12_init_X12_plain : GoodIn wsX12_init (va_wsS RX12 94 yX12_plain wsX12_plain) := goodIn_app (goodIn_of _ (by decide +kernel)) ggX12_init_X12_plain
theorem dX12_init_0 : decode cX12_init 0 = .ok (.aload_n 0, 1) := by decide +kernel
theorem dX12_init_1 : decode cX12_init 1 = .ok (.invokespecial 119, 3) := by decide +kernel
theorem dX12_init_4 : decode cX12_init 4 = .ok (.aload_n 0, 1) := by decide +kernel
theorem dX12_init_5 : decode cX12_init 5 = .ok (.bipush 18, 2) := by decide +kernel
theorem dX12_init_7 : decode cX12_init 7 = .ok (.newarray .int, 2) := by decide +kernel
theorem dX12_init_9 : decode cX12_init 9 = .ok (.putfield 124, 3) := by decide +kernel
theorem dX12_init_12 : decode cX12_init 12 = .ok (.aload_n 0, 1) := by decide +kernel
theorem dX12_init_13 : decode cX12_init 13 = .ok (.bipush 18, 2) := by decide +kernel
theorem dX12_init_15 : decode cX12_init 15 = .ok (.newarray .int, 2) := by decide +kernel
theorem dX12_init_17 : decode cX12_init 17 = .ok (.putfield 90, 3) := by decide +kernel
theorem dX12_init_20 : decode cX12_init 20 = .ok (.aload_n 0, 1) := by decide +kernel
theorem dX12_init_21 : decode cX12_init 21 = .ok (.new 127, 3) := by decide +kernel
theorem dX12_init_24 : decode cX12_init 24 = .ok (.dup, 1) := by decide +kernel
theorem dX12_init_25 : decode cX12_init 25 = .ok (.invokespecial 129, 3) := by decide +kernel
theorem dX12_init_28 : decode cX12_init 28 = .ok (.putfield 21, 3) := by decide +kernel
theorem dX12_init_31 : decode cX12_init 31 = .ok (.aload_n 0, 1) := by decide +kernel
theorem dX12_init_32 : decode cX12_init 32 = .ok (.sipush 600, 3) := by decide +kernel
theorem dX12_init_35 : decode cX12_init 35 = .ok (.newarray .byte, 2) := by decide +kernel
theorem dX12_init_37 : decode cX12_init 37 = .ok (.putfield 28, 3) := by decide +kernel
theorem dX12_init_40 : decode cX12_init 40 = .ok (.aload_n 0, 1) := by decide +kernel
theorem dX12_init_41 : decode cX12_init 41 = .ok (.iconst (-1), 1) := by decide +kernel
theorem dX12_init_42 : decode cX12_init 42 = .ok (.putfield 18, 3) := by decide +kernel
theorem dX12_init_45 : decode cX12_init 45 = .ok (.aload_n 0, 1) := by decide +kernel
theorem dX12_init_46 : decode cX12_init 46 = .ok (.bipush 8, 2) := by decide +kernel
theorem dX12_init_48 : decode cX12_init 48 = .ok (.newarray .boolean, 2) := by decide +kernel
theorem dX12_init_50 : decode cX12_init 50 = .ok (.putfield 98, 3) := by decide +kernel
theorem dX12_init_53 : decode cX12_init 53 = .ok (.aload_n 0, 1) := by decide +kernel
theorem dX12_init_54 : decode cX12_init 54 = .ok (.bipush 40, 2) := by decide +kernel
theorem dX12_init_56 : decode cX12_init 56 = .ok (.newarray .int, 2) := by decide +kernel
theorem dX12_init_58 : decode cX12_init 58 = .ok (.putfield 130, 3) := by decide +kernel
theorem dX12_init_61 : decode cX12_init 61 = .ok (.aload_n 0, 1) := by decide +kernel
theorem dX12_init_62 : decode cX12_init 62 = .ok (.sipush 320, 3) := by decide +kernel
theorem dX12_init_65 : decode cX12_init 65 = .ok (.newarray .int, 2) := by decide +kernel
theorem dX12_init_67 : decode cX12_init 67 = .ok (.putfield 133, 3) := by decide +kernel
theorem dX12_init_70 : decode cX12_init 70 = .ok (.aload_n 0, 1) := by decide +kernel
theorem dX12_init_71 : decode cX12_init 71 = .ok (.sipush 320, 3) := by decide +kernel
theorem dX12_init_74 : decode cX12_init 74 = .ok (.newarray .int, 2) := by decide +kernel
theorem dX12_init_76 : decode cX12_init 76 = .ok (.putfield 136, 3) := by decide +kernel
theorem dX12_init_79 : decode cX12_init 79 = .ok (.aload_n 0, 1) := by decide +kernel
theorem dX12_init_80 : decode cX12_init 80 = .ok (.sipush 320, 3) := by decide +kernel
theorem dX12_init_83 : decode cX12_init 83 = .ok (.newarray .int, 2) := by decide +kernel
theorem dX12_init_85 : decode cX12_init 85 = .ok (.putfield 139, 3) := by decide +kernel
theorem dX12_init_88 : decode cX12_init 88 = .ok (.aload_n 0, 1) := by decide +kernel
theorem dX12_init_89 : decode cX12_init 89 = .ok (.sipush 320, 3) := by decide +kernel
theorem dX12_init_92 : decode cX12_init 92 = .ok (.newarray .int, 2) := by decide +kernel
theorem dX12_init_94 : decode cX12_init 94 = .ok (.putfield 142, 3) := by decide +kernel
theorem dX12_init_97 : decode cX12_init 97 = .ok (.aload_n 0, 1) := by decide +kernel
theorem dX12_init_98 : decode cX12_init 98 = .ok (.bipush 30, 2) := by decide +kernel
theorem dX12_init_100 : decode cX12_init 100 = .ok (.newarray .int, 2) := by decide +kernel
theorem dX12_init_102 : decode cX12_init 102 = .ok (.putfield 144, 3) := by decide +kernel
theorem dX12_init_105 : decode cX12_init 105 = .ok (.aload_n 0, 1) := by decide +kernel
theorem dX12_init_106 : decode cX12_init 106 = .ok (.bipush 30, 2) := by decide +kernel
theorem dX12_init_108 : decode cX12_init 108 = .ok (.newarray .int, 2) := by decide +kernel
theorem dX12_init_110 : decode cX12_init 110 = .ok (.putfield 147, 3) := by decide +kernel
theorem dX12_init_113 : decode cX12_init 113 = .ok (.aload_n 0, 1) := by decide +kernel
theorem dX12_init_114 : decode cX12_init 114 = .ok (.bipush 30, 2) := by decide +kernel
theorem dX12_init_116 : decode cX12_init 116 = .ok (.newarray .int, 2) := by decide +kernel
theorem dX12_init_118 : decode cX12_init 118 = .ok (.putfield 150, 3) := by decide +kernel
theorem dX12_init_121 : decode cX12_init 121 = .ok (.aload_n 0, 1) := by decide +kernel
theorem dX12_init_122 : decode cX12_init 122 = .ok (.bipush 30, 2) := by decide +kernel
theorem dX12_init_124 : decode cX12_init 124 = .ok (.newarray .int, 2) := by decide +kernel
theorem dX12_init_126 : decode cX12_init 126 = .ok (.putfield 152, 3) := by decide +kernel
theorem dX12_init_129 : decode cX12_init 129 = .ok (.aload_n 0, 1) := by decide +kernel
theorem dX12_init_130 : decode cX12_init 130 = .ok (.bipush 100, 2) := by decide +kernel
theorem dX12_init_132 : decode cX12_init 132 = .ok (.newarray .int, 2) := by decide +kernel
theorem dX12_init_134 : decode cX12_init 134 = .ok (.putfield 154, 3) := by decide +kernel
theorem dX12_init_137 : decode cX12_init 137 = .ok (.aload_n 0, 1) := by decide +kernel
theorem dX12_init_138 : decode cX12_init 138 = .ok (.bipush 100, 2) := by decide +kernel
theorem dX12_init_140 : decode cX12_init 140 = .ok (.newarray .int, 2) := by decide +kernel
theorem dX12_init_142 : decode cX12_init 142 = .ok (.putfield 157, 3) := by decide +kernel
theorem dX12_init_145 : decode cX12_init 145 = .ok (.aload_n 0, 1) := by decide +kernel
theorem dX12_init_146 : decode cX12_init 146 = .ok (.bipush 100, 2) := by decide +kernel
theorem dX12_init_148 : decode cX12_init 148 = .ok (.newarray .int, 2) := by decide +kernel
theorem dX12_init_150 : decode cX12_init 150 = .ok (.putfield 160, 3) := by decide +kernel
theorem dX12_init_153 : decode cX12_init 153 = .ok (.aload_n 0, 1) := by decide +kernel
theorem dX12_init_154 : decode cX12_init 154 = .ok (.bipush 100, 2) := by decide +kernel
theorem dX12_init_156 : decode cX12_init 156 = .ok (.newarray .int, 2) := by decide +kernel
theorem dX12_init_158 : decode cX12_init 158 = .ok (.putfield 163, 3) := by decide +kernel
theorem dX12_init_161 : decode cX12_init 161 = .ok (.aload_n 0, 1) := by decide +kernel
theorem dX12_init_162 : decode cX12_init 162 = .ok (.bipush 100, 2) := by decide +kernel
theorem dX12_init_164 : decode cX12_init 164 = .ok (.newarray .int, 2) := by decide +kernel
theorem dX12_init_166 : decode cX12_init 166 = .ok (.putfield 166, 3) := by decide +kernel
theorem dX12_init_169 : decode cX12_init 169 = .ok (.aload_n 0, 1) := by decide +kernel
theorem dX12_init_170 : decode cX12_init 170 = .ok (.bipush 100, 2) := by decide +kernel
theorem dX12_init_172 : decode cX12_init 172 = .ok (.newarray .int, 2) := by decide +kernel
theorem dX12_init_174 : decode cX12_init 174 = .ok (.putfield 169, 3) := by decide +kernel
theorem dX12_init_177 : decode cX12_init 177 = .ok (.aload_n 0, 1) := by decide +kernel
theorem dX12_init_178 : decode cX12_init 178 = .ok (.bipush 100, 2) := by decide +kernel
theorem dX12_init_180 : decode cX12_init 180 = .ok (.newarray .boolean, 2) := by decide +kernel
theorem dX12_init_182 : decode cX12_init 182 = .ok (.putfield 172, 3) := by decide +kernel
theorem dX12_init_185 : decode cX12_init 185 = .ok (.aload_n 0, 1) := by decide +kernel
theorem dX12_init_186 : decode cX12_init 186 = .ok (.sipush 601, 3) := by decide +kernel
theorem dX12_init_189 : decode cX12_init 189 = .ok (.newarray .boolean, 2) := by decide +kernel
theorem dX12_init_191 : decode cX12_init 191 = .ok (.putfield 175, 3) := by decide +kernel
theorem dX12_init_194 : decode cX12_init 194 = .ok (.aload_n 0, 1) := by decide +kernel
theorem dX12_init_195 : decode cX12_init 195 = .ok (.sipush 601, 3) := by decide +kernel
theorem dX12_init_198 : decode cX12_init 198 = .ok (.newarray .boolean, 2) := by decide +kernel
theorem dX12_init_200 : decode cX12_init 200 = .ok (.putfield 178, 3) := by decide +kernel
theorem dX12_init_203 : decode cX12_init 203 = .ok (.aload_n 0, 1) := by decide +kernel
theorem dX12_init_204 : decode cX12_init 204 = .ok (.bipush 40, 2) := by decide +kernel
theorem dX12_init_206 : decode cX12_init 206 = .ok (.newarray .int, 2) := by decide +kernel
theorem dX12_init_208 : decode cX12_init 208 = .ok (.putfield 181, 3) := by decide +kernel
theorem dX12_init_211 : decode cX12_init 211 = .ok (.aload_n 0, 1) := by decide +kernel
theorem dX12_init_212 : decode cX12_init 212 = .ok (.bipush 40, 2) := by decide +kernel
theorem dX12_init_214 : decode cX12_init 214 = .ok (.newarray .int, 2) := by decide +kernel
theorem dX12_init_216 : decode cX12_init 216 = .ok (.putfield 184, 3) := by decide +kernel
theorem dX12_init_219 : decode cX12_init 219 = .ok (.aload_n 0, 1) := by decide +kernel
theorem dX12_init_220 : decode cX12_init 220 = .ok (.bipush 40, 2) := by decide +kernel
theorem dX12_init_222 : decode cX12_init 222 = .ok (.newarray .int, 2) := by decide +kernel
theorem dX12_init_224 : decode cX12_init 224 = .ok (.putfield 187, 3) := by decide +kernel
theorem dX12_init_227 : decode cX12_init 227 = .ok (.aload_n 0, 1) := by decide +kernel
theorem dX12_init_228 : decode cX12_init 228 = .ok (.bipush 40, 2) := by decide +kernel
theorem dX12_init_230 : decode cX12_init 230 = .ok (.newarray .int, 2) := by decide +kernel
theorem dX12_init_232 : decode cX12_init 232 = .ok (.putfield 190, 3) := by decide +kernel
theorem dX12_init_235 : decode cX12_init 235 = .ok (.aload_n 0, 1) := by decide +kernel
theorem dX12_init_236 : decode cX12_init 236 = .ok (.bipush 40, 2) := by decide +kernel
theorem dX12_init_238 : decode cX12_init 238 = .ok (.newarray .int, 2) := by decide +kernel
theorem dX12_init_240 : decode cX12_init 240 = .ok (.putfield 193, 3) := by decide +kernel
theorem dX12_init_243 : decode cX12_init 243 = .ok (.aload_n 0, 1) := by decide +kernel
theorem dX12_init_244 : decode cX12_init 244 = .ok (.bipush 40, 2) := by decide +kernel
theorem dX12_init_246 : decode cX12_init 246 = .ok (.newarray .int, 2) := by decide +kernel
theorem dX12_init_248 : decode cX12_init 248 = .ok (.putfield 195, 3) := by decide +kernel
theorem dX12_init_251 : decode cX12_init 251 = .ok (.aload_n 0, 1) := by decide +kernel
theorem dX12_init_252 : decode cX12_init 252 = .ok (.bipush 40, 2) := by decide +kernel
theorem dX12_init_254 : decode cX12_init 254 = .ok (.newarray .int, 2) := by decide +kernel
theorem dX12_init_256 : decode cX12_init 256 = .ok (.putfield 197, 3) := by decide +kernel
theorem dX12_init_259 : decode cX12_init 259 = .ok (.aload_n 0, 1) := by decide +kernel
theorem dX12_init_260 : decode cX12_init 260 = .ok (.bipush 40, 2) := by decide +kernel
theorem dX12_init_262 : decode cX12_init 262 = .ok (.newarray .int, 2) := by decide +kernel
theorem dX12_init_264 : decode cX12_init 264 = .ok (.putfield 200, 3) := by decide +kernel
theorem dX12_init_267 : decode cX12_init 267 = .ok (.aload_n 0, 1) := by decide +kernel
theorem dX12_init_268 : decode cX12_init 268 = .ok (.sipush 320, 3) := by decide +kernel
theorem dX12_init_271 : decode cX12_init 271 = .ok (.newarray .int, 2) := by decide +kernel
theorem dX12_init_273 : decode cX12_init 273 = .ok (.putfield 203, 3) := by decide +kernel
theorem dX12_init_276 : decode cX12_init 276 = .ok (.aload_n 0, 1) := by decide +kernel
theorem dX12_init_277 : decode cX12_init 277 = .ok (.sipush 320, 3) := by decide +kernel
theorem dX12_init_280 : decode cX12_init 280 = .ok (.newarray .int, 2) := by decide +kernel
theorem dX12_init_282 : decode cX12_init 282 = .ok (.putfield 206, 3) := by decide +kernel
theorem dX12_init_285 : decode cX12_init 285 = .ok (.aload_n 0, 1) := by decide +kernel
theorem dX12_init_286 : decode cX12_init 286 = .ok (.bipush 40, 2) := by decide +kernel
theorem dX12_init_288 : decode cX12_init 288 = .ok (.newarray .int, 2) := by decide +kernel
theorem dX12_init_290 : decode cX12_init 290 = .ok (.putfield 209, 3) := by decide +kernel
theorem dX12_init_293 : decode cX12_init 293 = .ok (.aload_n 0, 1) := by decide +kernel
theorem dX12_init_294 : decode cX12_init 294 = .ok (.sipush 369, 3) := by decide +kernel
theorem dX12_init_297 : decode cX12_init 297 = .ok (.newarray .int, 2) := by decide +kernel
theorem dX12_init_299 : decode cX12_init 299 = .ok (.putfield 212, 3) := by decide +kernel
theorem dX12_init_302 : decode cX12_init 302 = .ok (.aload_n 0, 1) := by decide +kernel
theorem dX12_init_303 : decode cX12_init 303 = .ok (.getfield 124, 3) := by decide +kernel
theorem dX12_init_306 : decode cX12_init 306 = .ok (.invokestatic 94, 3) := by decide +kernel
theorem dX12_init_309 : decode cX12_init 309 = .ok (.return_, 1) := by decide +kernel
set_option maxRecDepth 20000 in
theorem ggX12_feed_X12_lay : GoodIn wsX12_feed wsX12_lay := goodIn_r _ [6, 7, 1, 8, 9, 10, 11, 12, 13, 14, 15, 16, 17, 18, 19, 20, 21, 22, 23, 24, 25, 26, 27, 28, 29, 30, 31, 32, 33, 34, 35, 36, 37, 38, 39, 40, 41, 42, 43, 44, 45, 46, 47, 48, 49, 50, 51, 52, 53, 54, 55, 56, 57, 58, 59, 60] (by decide +kernel) (by decide +kernel)
set_option maxRecDepth 20000 in
theorem gX12_feed_X12_lay : GoodIn wsX12_feed (wsV RX12 215 RX12 yX12_lay wsX12_lay) := goodIn_app (goodIn_of _ (by decide +kernel)) ggX12_feed_X12_lay
theorem dX12_feed_0 : decode cX12_feed 0 = .ok (.aload_n 0, 1) := by decide +kernel
theorem dX12_feed_1 : decode cX12_feed 1 = .ok (.getfield 116, 3) := by decide +kernel
theorem dX12_feed_4 : decode cX12_feed 4 = .ok (.bipush 20, 2) := by decide +kernel
theorem dX12_feed_6 : decode cX12_feed 6 = .ok (.iadd, 1) := by decide +kernel
theorem dX12_feed_7 : decode cX12_feed 7 = .ok (.sipush 600, 3) := by decide +kernel
theorem dX12_feed_10 : decode cX12_feed 10 = .ok (.if_icmp .le 6, 3) := by decide +kernel
theorem dX12_feed_13 : decode cX12_feed 13 = .ok (.bipush (-3), 2) := by decide +kernel
theorem dX12_feed_15 : decode cX12_feed 15 = .ok (.ireturn, 1) := by decide +kernel
theorem dX12_feed_16 : decode cX12_feed 16 = .ok (.aload_n 0, 1) := by decide +kernel
theorem dX12_feed_17 : decode cX12_feed 17 = .ok (.iload_n 1, 1) := by decide +kernel
theorem dX12_feed_18 : decode cX12_feed 18 = .ok (.invokevirtual 215, 3) := by decide +kernel
theorem dX12_feed_21 : decode cX12_feed 21 = .ok (.aload_n 0, 1) := by decide +kernel
theorem dX12_feed_22 : decode cX12_feed 22 = .ok (.iload_n 2, 1) := by decide +kernel
theorem dX12_feed_23 : decode cX12_feed 23 = .ok (.invokevirtual 215, 3) := by decide +kernel
theorem dX12_feed_26 : decode cX12_feed 26 = .ok (.aload_n 0, 1) := by decide +kernel
theorem dX12_feed_27 : decode cX12_feed 27 = .ok (.iload_n 3, 1) := by decide +kernel
theorem dX12_feed_28 : decode cX12_feed 28 = .ok (.invokevirtual 215, 3) := by decide +kernel
theorem dX12_feed_31 : decode cX12_feed 31 = .ok (.aload_n 0, 1) := by decide +kernel
theorem dX12_feed_32 : decode cX12_feed 32 = .ok (.iload 4, 2) := by decide +kernel
theorem dX12_feed_34 : decode cX12_feed 34 = .ok (.invokevirtual 215, 3) := by decide +kernel
theorem dX12_feed_37 : decode cX12_feed 37 = .ok (.aload_n 0, 1) := by decide +kernel
theorem dX12_feed_38 : decode cX12_feed 38 = .ok (.iload 5, 2) := by decide +kernel
theorem dX12_feed_40 : decode cX12_feed 40 = .ok (.invokevirtual 215, 3) := by decide +kernel
theorem dX12_feed_43 : decode cX12_feed 43 = .ok (.aload_n 0, 1) := by decide +kernel
theorem dX12_feed_44 : decode cX12_feed 44 = .ok (.getfield 116, 3) := by decide +kernel
theorem dX12_feed_47 : decode cX12_feed 47 = .ok (.ireturn, 1) := by decide +kernel
theorem dX12_lay_0 : decode cX12_lay 0 = .ok (.bipush 24, 2) := by decide +kernel
theorem dX12_lay_2 : decode cX12_lay 2 = .ok (.istore_n 2, 1) := by decide +kernel
theorem dX12_lay_3 : decode cX12_lay 3 = .ok (.iload_n 2, 1) := by decide +kernel
theorem dX12_lay_4 : decode cX12_lay 4 = .ok (.ifCond .lt 32, 3) := by decide +kernel
theorem dX12_lay_7 : decode cX12_lay 7 = .ok (.aload_n 0, 1) := by decide +kernel
theorem dX12_lay_8 : decode cX12_lay 8 = .ok (.getfield 28, 3) := by decide +kernel
theorem dX12_lay_11 : decode cX12_lay 11 = .ok (.aload_n 0, 1) := by decide +kernel
theorem dX12_lay_12 : decode cX12_lay 12 = .ok (.getfield 116, 3) := by decide +kernel
theorem dX12_lay_15 : decode cX12_lay 15 = .ok (.iload_n 1, 1) := by decide +kernel
theorem dX12_lay_16 : decode cX12_lay 16 = .ok (.iload_n 2, 1) := by decide +kernel
theorem dX12_lay_17 : decode cX12_lay 17 = .ok (.ishr, 1) := by decide +kernel
theorem dX12_lay_18 : decode cX12_lay 18 = .ok (.i2b, 1) := by decide +kernel
theorem dX12_lay_19 : decode cX12_lay 19 = .ok (.bastore, 1) := by decide +kernel
theorem dX12_lay_20 : decode cX12_lay 20 = .ok (.aload_n 0, 1) := by decide +kernel
theorem dX12_lay_21 : decode cX12_lay 21 = .ok (.dup, 1) := by decide +kernel
theorem dX12_lay_22 : decode cX12_lay 22 = .ok (.getfield 116, 3) := by decide +kernel
theorem dX12_lay_25 : decode cX12_lay 25 = .ok (.iconst 1, 1) := by decide +kernel
theorem dX12_lay_26 : decode cX12_lay 26 = .ok (.iadd, 1) := by decide +kernel
theorem dX12_lay_27 : decode cX12_lay 27 = .ok (.putfield 116, 3) := by decide +kernel
theorem dX12_lay_30 : decode cX12_lay 30 = .ok (.iinc 2 (-8), 3) := by decide +kernel
theorem dX12_lay_33 : decode cX12_lay 33 = .ok (.goto (-30), 3) := by decide +kernel
theorem dX12_lay_36 : decode cX12_lay 36 = .ok (.return_, 1) := by decide +kernel
set_option maxRecDepth 20000 in
theorem ggX12_end_X12_in : GoodIn wsX12_end wsX12_in := goodIn_r _ [5] (by decide +kernel) (by decide +kernel)
set_option maxRecDepth 20000 in
theorem gX12_end_X12_in : GoodIn wsX12_end (va_wsS RX12 7 yX12_in wsX12_in) := goodIn_app (goodIn_of _ (by decide +kernel)) ggX12_end_X12_in
theorem dX12_end_0 : decode cX12_end 0 = .ok (.iload_n 1, 1) := by decide +kernel
theorem dX12_end_1 : decode cX12_end 1 = .ok (.i2l, 1) := by decide +kernel
theorem dX12_end_2 : decode cX12_end 2 = .ok (.lconst 0, 1) := by decide +kernel
theorem dX12_end_3 : decode cX12_end 3 = .ok (.aload_n 0, 1) := by decide +kernel
theorem dX12_end_4 : decode cX12_end 4 = .ok (.getfield 116, 3) := by decide +kernel
theorem dX12_end_7 : decode cX12_end 7 = .ok (.i2l, 1) := by decide +kernel
theorem dX12_end_8 : decode cX12_end 8 = .ok (.invokestatic 7, 3) := by decide +kernel
theorem dX12_end_11 : decode cX12_end 11 = .ok (.ifCond .ne 5, 3) := by decide +kernel
theorem dX12_end_14 : decode cX12_end 14 = .ok (.iconst (-1), 1) := by decide +kernel
theorem dX12_end_15 : decode cX12_end 15 = .ok (.ireturn, 1) := by decide +kernel
theorem dX12_end_16 : decode cX12_end 16 = .ok (.aload_n 0, 1) := by decide +kernel
theorem dX12_end_17 : decode cX12_end 17 = .ok (.iload_n 1, 1) := by decide +kernel
theorem dX12_end_18 : decode cX12_end 18 = .ok (.putfield 116, 3) := by decide +kernel
theorem dX12_end_21 : decode cX12_end 21 = .ok (.iload_n 1, 1) := by decide +kernel
theorem dX12_end_22 : decode cX12_end 22 = .ok (.ireturn, 1) := by decide +kernel
set_option maxRecDepth 20000 in
theorem ggX12_rules_X12_begin : GoodIn wsX12_rules wsX12_begin := goodIn_r _ [9, 10, 11, 12, 104, 105, 106, 107, 108, 109, 110, 111, 112, 113, 114, 115, 116, 117, 118, 119, 120, 121, 122, 123, 124, 125, 126, 127, 128, 129, 130, 131, 132, 133, 134, 135, 136, 137, 138, 139, 140, 141, 142, 143, 144, 145, 146, 147, 148, 149, 150, 151, 152, 153, 154, 155, 156] (by decide +kernel) (by decide +kernel)
set_option maxRecDepth 20000 in
theorem gX12_rules_X12_begin : GoodIn wsX12_rules (wsV RX12 218 RX12 yX12_begin wsX12_begin) := goodIn_app (goodIn_of _ (by decide +kernel)) ggX12_rules_X12_begin
set_option maxRecDepth 20000 in
theorem ggX12_rules_X12_scan : GoodIn wsX12_rules wsX12_scan := goodIn_r _ [16, 12, 11, 17, 18, 19, 20, 21, 22, 23, 8, 24, 25, 26, 27, 28, 29, 30, 104, 105, 106, 107, 108, 109, 110, 111, 112, 113, 114, 115, 116, 117, 118, 119, 120, 121, 122, 123, 124, 125, 126, 127, 128, 129, 130, 131, 132, 133, 134, 135, 136, 137, 138, 139, 140, 141, 142, 143, 144, 145, 146, 147, 148, 149, 150, 151, 152, 153, 154, 155, 156] (by decide +kernel) (by decide +kernel)
set_option maxRecDepth 20000 in
theorem gX12_rules_X12_scan : GoodIn wsX12_rules (wsV RX12 66 RX12 yX12_scan wsX12_scan) := goodIn_app (goodIn_of _ (by decide +kernel)) ggX12_rules_X12_scan
set_option maxRecDepth 20000 in
theorem ggX12_rules_X12_readRules : GoodIn wsX12_rules wsX12_readRules := goodIn_r _ [34, 4, 35, 19, 36, 37, 8, 38, 39, 40, 41, 42, 43, 44, 45, 46, 12, 18, 17, 47, 48, 49, 50, 51, 52, 53, 54, 55, 56, 57, 58, 59, 60, 61, 62, 63, 64, 65, 66, 67, 68, 69, 70, 71, 72, 73, 74, 75, 76, 77, 78, 79, 80, 81, 82, 83, 84, 85, 86, 87, 88, 89, 90, 91, 92, 93, 94, 95, 13, 14, 15, 16, 11, 20, 21, 22, 23, 24, 25, 26, 27, 28, 29, 30, 96, 97, 98, 99, 100, 101, 102, 103, 104, 105, 106, 107, 108, 109, 110, 111, 112, 113, 114, 115, 116, 117, 118, 119, 120, 121, 122, 123, 124, 125, 126, 127, 128, 129, 130, 131, 132, 133, 134, 135, 136, 137, 138, 139, 140, 141, 142, 143, 144, 145, 146, 147, 148, 149, 150, 151, 152, 153, 154, 155, 156] (by decide +kernel) (by decide +kernel)
set_option maxRecDepth 20000 in
theorem gX12_rules_X12_readRules : GoodIn wsX12_rules (wsV RX12 221 RX12 yX12_readRules wsX12_readRules) := goodIn_app (goodIn_of _ (by decide +kernel)) ggX12_rules_X12_readRules
theorem dX12_rules_0 : decode cX12_rules 0 = .ok (.aload_n 0, 1) := by decide +kernel
theorem dX12_rules_1 : decode cX12_rules 1 = .ok (.invokevirtual 218, 3) := by decide +kernel
theorem dX12_rules_4 : decode cX12_rules 4 = .ok (.aload_n 0, 1) := by decide +kernel
theorem dX12_rules_5 : decode cX12_rules 5 = .ok (.iconst 0, 1) := by decide +kernel
theorem dX12_rules_6 : decode cX12_rules 6 = .ok (.putfield 11, 3) := by decide +kernel
theorem dX12_rules_9 : decode cX12_rules 9 = .ok (.aload_n 0, 1) := by decide +kernel
theorem dX12_rules_10 : decode cX12_rules 10 = .ok (.iconst (-1), 1) := by decide +kernel
theorem dX12_rules_11 : decode cX12_rules 11 = .ok (.putfield 18, 3) := by decide +kernel
theorem dX12_rules_14 : decode cX12_rules 14 = .ok (.aload_n 0, 1) := by decide +kernel
theorem dX12_rules_15 : decode cX12_rules 15 = .ok (.invokevirtual 66, 3) := by decide +kernel
theorem dX12_rules_18 : decode cX12_rules 18 = .ok (.aload_n 0, 1) := by decide +kernel
theorem dX12_rules_19 : decode cX12_rules 19 = .ok (.invokevirtual 221, 3) := by decide +kernel
theorem dX12_rules_22 : decode cX12_rules 22 = .ok (.istore_n 1, 1) := by decide +kernel
theorem dX12_rules_23 : decode cX12_rules 23 = .ok (.goto 6, 3) := by decide +kernel
theorem dX12_rules_26 : decode cX12_rules 26 = .ok (.astore_n 2, 1) := by decide +kernel
theorem dX12_rules_27 : decode cX12_rules 27 = .ok (.iconst (-1), 1) := by decide +kernel
theorem dX12_rules_28 : decode cX12_rules 28 = .ok (.ireturn, 1) := by decide +kernel
theorem dX12_rules_29 : decode cX12_rules 29 = .ok (.iconst 0, 1) := by decide +kernel
theorem dX12_rules_30 : decode cX12_rules 30 = .ok (.istore_n 2, 1) := by decide +kernel
theorem dX12_rules_31 : decode cX12_rules 31 = .ok (.iload_n 2, 1) := by decide +kernel
theorem dX12_rules_32 : decode cX12_rules 32 = .ok (.bipush 18, 2) := by decide +kernel
theorem dX12_rules_34 : decode cX12_rules 34 = .ok (.if_icmp .ge 21, 3) := by decide +kernel
theorem dX12_rules_37 : decode cX12_rules 37 = .ok (.aload_n 0, 1) := by decide +kernel
theorem dX12_rules_38 : decode cX12_rules 38 = .ok (.getfield 124, 3) := by decide +kernel
theorem dX12_rules_41 : decode cX12_rules 41 = .ok (.iload_n 2, 1) := by decide +kernel
theorem dX12_rules_42 : decode cX12_rules 42 = .ok (.aload_n 0, 1) := by decide +kernel
theorem dX12_rules_43 : decode cX12_rules 43 = .ok (.getfield 90, 3) := by decide +kernel
theorem dX12_rules_46 : decode cX12_rules 46 = .ok (.iload_n 2, 1) := by decide +kernel
theorem dX12_rules_47 : decode cX12_rules 47 = .ok (.iaload, 1) := by decide +kernel
theorem dX12_rules_48 : decode cX12_rules 48 = .ok (.iastore, 1) := by decide +kernel
theorem dX12_rules_49 : decode cX12_rules 49 = .ok (.iinc 2 1, 3) := by decide +kernel
theorem dX12_rules_52 : decode cX12_rules 52 = .ok (.goto (-21), 3) := by decide +kernel
theorem dX12_rules_55 : decode cX12_rules 55 = .ok (.iload_n 1, 1) := by decide +kernel
theorem dX12_rules_56 : decode cX12_rules 56 = .ok (.ireturn, 1) := by decide +kernel
theorem dX12_fault_0 : decode cX12_fault 0 = .ok (.iload_n 1, 1) := by decide +kernel
theorem dX12_fault_1 : decode cX12_fault 1 = .ok (.ifCond .ne 10, 3) := by decide +kernel
theorem dX12_fault_4 : decode cX12_fault 4 = .ok (.aload_n 0, 1) := by decide +kernel
theorem dX12_fault_5 : decode cX12_fault 5 = .ok (.getfield 11, 3) := by decide +kernel
theorem dX12_fault_8 : decode cX12_fault 8 = .ok (.goto 16, 3) := by decide +kernel
theorem dX12_fault_11 : decode cX12_fault 11 = .ok (.iload_n 1, 1) := by decide +kernel
theorem dX12_fault_12 : decode cX12_fault 12 = .ok (.iconst 1, 1) := by decide +kernel
theorem dX12_fault_13 : decode cX12_fault 13 = .ok (.if_icmp .ne 10, 3) := by decide +kernel
theorem dX12_fault_16 : decode cX12_fault 16 = .ok (.aload_n 0, 1) := by decide +kernel
theorem dX12_fault_17 : decode cX12_fault 17 = .ok (.getfield 18, 3) := by decide +kernel
theorem dX12_fault_20 : decode cX12_fault 20 = .ok (.goto 4, 3) := by decide +kernel
theorem dX12_fault_23 : decode cX12_fault 23 = .ok (.iconst (-1), 1) := by decide +kernel
theorem dX12_fault_24 : decode cX12_fault 24 = .ok (.ireturn, 1) := by decide +kernel
set_option maxRecDepth 20000 in
theorem ggX12_rule_X12_in : GoodIn wsX12_rule wsX12_in := goodIn_r _ [8] (by decide +kernel) (by decide +kernel)
set_option maxRecDepth 20000 in
theorem gX12_rule_X12_in : GoodIn wsX12_rule (va_wsS RX12 7 yX12_in wsX12_in) := goodIn_app (goodIn_of _ (by decide +kernel)) ggX12_rule_X12_in
theorem dX12_rule_0 : decode cX12_rule 0 = .ok (.iload_n 1, 1) := by decide +kernel
theorem dX12_rule_1 : decode cX12_rule 1 = .ok (.i2l, 1) := by decide +kernel
theorem dX12_rule_2 : decode cX12_rule 2 = .ok (.lconst 0, 1) := by decide +kernel
theorem dX12_rule_3 : decode cX12_rule 3 = .ok (.ldc2_w 224, 3) := by decide +kernel
theorem dX12_rule_6 : decode cX12_rule 6 = .ok (.invokestatic 7, 3) := by decide +kernel
theorem dX12_rule_9 : decode cX12_rule 9 = .ok (.ifCond .ne 17, 3) := by decide +kernel
theorem dX12_rule_12 : decode cX12_rule 12 = .ok (.iload_n 1, 1) := by decide +kernel
theorem dX12_rule_13 : decode cX12_rule 13 = .ok (.i2l, 1) := by decide +kernel
theorem dX12_rule_14 : decode cX12_rule 14 = .ok (.ldc2_w 226, 3) := by decide +kernel
theorem dX12_rule_17 : decode cX12_rule 17 = .ok (.ldc2_w 228, 3) := by decide +kernel
theorem dX12_rule_20 : decode cX12_rule 20 = .ok (.invokestatic 7, 3) := by decide +kernel
theorem dX12_rule_23 : decode cX12_rule 23 = .ok (.ifCond .eq 12, 3) := by decide +kernel
theorem dX12_rule_26 : decode cX12_rule 26 = .ok (.aload_n 0, 1) := by decide +kernel
theorem dX12_rule_27 : decode cX12_rule 27 = .ok (.getfield 124, 3) := by decide +kernel
theorem dX12_rule_30 : decode cX12_rule 30 = .ok (.iload_n 1, 1) := by decide +kernel
theorem dX12_rule_31 : decode cX12_rule 31 = .ok (.iaload, 1) := by decide +kernel
theorem dX12_rule_32 : decode cX12_rule 32 = .ok (.goto 5, 3) := by decide +kernel
theorem dX12_rule_35 : decode cX12_rule 35 = .ok (.bipush (-9), 2) := by decide +kernel
theorem dX12_rule_37 : decode cX12_rule 37 = .ok (.ireturn, 1) := by decide +kernel
set_option maxRecDepth 20000 in
theorem ggX12_isStreet_X12_in : GoodIn wsX12_isStreet wsX12_in := goodIn_r _ [5] (by decide +kernel) (by decide +kernel)
set_option maxRecDepth 20000 in
theorem gX12_isStreet_X12_in : GoodIn wsX12_isStreet (va_wsS RX12 7 yX12_in wsX12_in) := goodIn_app (goodIn_of _ (by decide +kernel)) ggX12_isStreet_X12_in
theorem dX12_isStreet_0 : decode cX12_isStreet 0 = .ok (.iload_n 0, 1) := by decide +kernel
theorem dX12_isStreet_1 : decode cX12_isStreet 1 = .ok (.i2l, 1) := by decide +kernel
theorem dX12_isStreet_2 : decode cX12_isStreet 2 = .ok (.lconst 0, 1) := by decide +kernel
theorem dX12_isStreet_3 : decode cX12_isStreet 3 = .ok (.ldc2_w 230, 3) := by decide +kernel
theorem dX12_isStreet_6 : decode cX12_isStreet 6 = .ok (.invokestatic 7, 3) := by decide +kernel
theorem dX12_isStreet_9 : decode cX12_isStreet 9 = .ok (.ireturn, 1) := by decide +kernel
set_option maxRecDepth 20000 in
theorem ggX12_areYears_X12_isYear : GoodIn wsX12_areYears wsX12_isYear := goodIn_r _ [5, 6, 1, 7, 8, 4, 9] (by decide +kernel) (by decide +kernel)
set_option maxRecDepth 20000 in
theorem gX12_areYears_X12_isYear : GoodIn wsX12_areYears (va_wsS RX12 232 yX12_isYear wsX12_isYear) := goodIn_app (goodIn_of _ (by decide +kernel)) ggX12_areYears_X12_isYear
set_option maxRecDepth 20000 in
theorem ggX12_areYears_X12_in : GoodIn wsX12_areYears wsX12_in := goodIn_r _ [9] (by decide +kernel) (by decide +kernel)
set_option maxRecDepth 20000 in
theorem gX12_areYears_X12_in : GoodIn wsX12_areYears (va_wsS RX12 7 yX12_in wsX12_in) := goodIn_app (goodIn_of _ (by decide +kernel)) ggX12_areYears_X12_in
theorem dX12_areYears_0 : decode cX12_areYears 0 = .ok (.iload_n 0, 1) := by decide +kernel
theorem dX12_areYears_1 : decode cX12_areYears 1 = .ok (.invokestatic 232, 3) := by decide +kernel
theorem dX12_areYears_4 : decode cX12_areYears 4 = .ok (.ifCond .eq 20, 3) := by decide +kernel
theorem dX12_areYears_7 : decode cX12_areYears 7 = .ok (.iload_n 1, 1) := by decide +kernel
theorem dX12_areYears_8 : decode cX12_areYears 8 = .ok (.i2l, 1) := by decide +kernel
theorem dX12_areYears_9 : decode cX12_areYears 9 = .ok (.iload_n 0, 1) := by decide +kernel
theorem dX12_areYears_10 : decode cX12_areYears 10 = .ok (.i2l, 1) := by decide +kernel
theorem dX12_areYears_11 : decode cX12_areYears 11 = .ok (.ldc2_w 5, 3) := by decide +kernel
theorem dX12_areYears_14 : decode cX12_areYears 14 = .ok (.invokestatic 7, 3) := by decide +kernel
theorem dX12_areYears_17 : decode cX12_areYears 17 = .ok (.ifCond .eq 7, 3) := by decide +kernel
theorem dX12_areYears_20 : decode cX12_areYears 20 = .ok (.iconst 1, 1) := by decide +kernel
theorem dX12_areYears_21 : decode cX12_areYears 21 = .ok (.goto 4, 3) := by decide +kernel
theorem dX12_areYears_24 : decode cX12_areYears 24 = .ok (.iconst 0, 1) := by decide +kernel
theorem dX12_areYears_25 : decode cX12_areYears 25 = .ok (.ireturn, 1) := by decide +kernel
theorem dX12_put_0 : decode cX12_put 0 = .ok (.bipush 8, 2) := by decide +kernel
theorem dX12_put_2 : decode cX12_put 2 = .ok (.iload_n 1, 1) := by decide +kernel
theorem dX12_put_3 : decode cX12_put 3 = .ok (.imul, 1) := by decide +kernel
theorem dX12_put_4 : decode cX12_put 4 = .ok (.aload_n 0, 1) := by decide +kernel
theorem dX12_put_5 : decode cX12_put 5 = .ok (.getfield 130, 3) := by decide +kernel
theorem dX12_put_8 : decode cX12_put 8 = .ok (.iload_n 1, 1) := by decide +kernel
theorem dX12_put_9 : decode cX12_put 9 = .ok (.iaload, 1) := by decide +kernel
theorem dX12_put_10 : decode cX12_put 10 = .ok (.iadd, 1) := by decide +kernel
theorem dX12_put_11 : decode cX12_put 11 = .ok (.istore 6, 2) := by decide +kernel
theorem dX12_put_13 : decode cX12_put 13 = .ok (.aload_n 0, 1) := by decide +kernel
theorem dX12_put_14 : decode cX12_put 14 = .ok (.getfield 133, 3) := by decide +kernel
theorem dX12_put_17 : decode cX12_put 17 = .ok (.iload 6, 2) := by decide +kernel
theorem dX12_put_19 : decode cX12_put 19 = .ok (.iload_n 2, 1) := by decide +kernel
theorem dX12_put_20 : decode cX12_put 20 = .ok (.iastore, 1) := by decide +kernel
theorem dX12_put_21 : decode cX12_put 21 = .ok (.aload_n 0, 1) := by decide +kernel
theorem dX12_put_22 : decode cX12_put 22 = .ok (.getfield 136, 3) := by decide +kernel
theorem dX12_put_25 : decode cX12_put 25 = .ok (.iload 6, 2) := by decide +kernel
theorem dX12_put_27 : decode cX12_put 27 = .ok (.iload_n 3, 1) := by decide +kernel
theorem dX12_put_28 : decode cX12_put 28 = .ok (.iastore, 1) := by decide +kernel
theorem dX12_put_29 : decode cX12_put 29 = .ok (.aload_n 0, 1) := by decide +kernel
theorem dX12_put_30 : decode cX12_put 30 = .ok (.getfield 139, 3) := by decide +kernel
theorem dX12_put_33 : decode cX12_put 33 = .ok (.iload 6, 2) := by decide +kernel
theorem dX12_put_35 : decode cX12_put 35 = .ok (.iload 4, 2) := by decide +kernel
theorem dX12_put_37 : decode cX12_put 37 = .ok (.iastore, 1) := by decide +kernel
theorem dX12_put_38 : decode cX12_put 38 = .ok (.aload_n 0, 1) := by decide +kernel
theorem dX12_put_39 : decode cX12_put 39 = .ok (.getfield 142, 3) := by decide +kernel
theorem dX12_put_42 : decode cX12_put 42 = .ok (.iload 6, 2) := by decide +kernel
theorem dX12_put_44 : decode cX12_put 44 = .ok (.iload 5, 2) := by decide +kernel
theorem dX12_put_46 : decode cX12_put 46 = .ok (.iastore, 1) := by decide +kernel
theorem dX12_put_47 : decode cX12_put 47 = .ok (.aload_n 0, 1) := by decide +kernel
theorem dX12_put_48 : decode cX12_put 48 = .ok (.getfield 130, 3) := by decide +kernel
theorem dX12_put_51 : decode cX12_put 51 = .ok (.iload_n 1, 1) := by decide +kernel
theorem dX12_put_52 : decode cX12_put 52 = .ok (.dup2, 1) := by decide +kernel
theorem dX12_put_53 : decode cX12_put 53 = .ok (.iaload, 1) := by decide +kernel
theorem dX12_put_54 : decode cX12_put 54 = .ok (.iconst 1, 1) := by decide +kernel
theorem dX12_put_55 : decode cX12_put 55 = .ok (.iadd, 1) := by decide +kernel
theorem dX12_put_56 : decode cX12_put 56 = .ok (.iastore, 1) := by decide +kernel
theorem dX12_put_57 : decode cX12_put 57 = .ok (.aload_n 0, 1) := by decide +kernel
theorem dX12_put_58 : decode cX12_put 58 = .ok (.getfield 130, 3) := by decide +kernel
theorem dX12_put_61 : decode cX12_put 61 = .ok (.iload_n 1, 1) := by decide +kernel
theorem dX12_put_62 : decode cX12_put 62 = .ok (.iaload, 1) := by decide +kernel
theorem dX12_put_63 : decode cX12_put 63 = .ok (.ireturn, 1) := by decide +kernel
set_option maxRecDepth 20000 in
theorem ggX12_site_X12_areYears : GoodIn wsX12_site wsX12_areYears := goodIn_r _ [7, 8, 9, 10, 6, 11, 12, 13, 14, 15] (by decide +kernel) (by decide +kernel)
set_option maxRecDepth 20000 in
theorem gX12_site_X12_areYears : GoodIn wsX12_site (va_wsS RX12 235 yX12_areYears wsX12_areYears) := goodIn_app (goodIn_of _ (by decide +kernel)) ggX12_site_X12_areYears
set_option maxRecDepth 20000 in
theorem ggX12_site_X12_isStreet : GoodIn wsX12_site wsX12_isStreet := goodIn_r _ [18, 19, 13, 14, 6, 15] (by decide +kernel) (by decide +kernel)
set_option maxRecDepth 20000 in
theorem gX12_site_X12_isStreet : GoodIn wsX12_site (va_wsS RX12 239 yX12_isStreet wsX12_isStreet) := goodIn_app (goodIn_of _ (by decide +kernel)) ggX12_site_X12_isStreet
set_option maxRecDepth 20000 in
theorem ggX12_site_X12_in : GoodIn wsX12_site wsX12_in := goodIn_r _ [15] (by decide +kernel) (by decide +kernel)
set_option maxRecDepth 20000 in
theorem gX12_site_X12_in : GoodIn wsX12_site (va_wsS RX12 7 yX12_in wsX12_in) := goodIn_app (goodIn_of _ (by decide +kernel)) ggX12_site_X12_in
set_option maxRecDepth 20000 in
theorem ggX12_site_X12_put : GoodIn wsX12_site wsX12_put := goodIn_r _ [23, 3, 24, 25, 26, 27, 28, 29, 30, 31, 32, 33, 34, 35, 36, 37, 38, 39, 40, 41, 42, 43, 44, 45, 46, 47, 48, 49, 50, 51, 52, 53, 54, 55, 56, 57, 58, 59, 60, 61, 62, 63, 64, 65, 66, 67, 68, 69, 70, 71, 72, 73, 74, 75, 76, 77, 78, 79, 80] (by decide +kernel) (by decide +kernel)
set_option maxRecDepth 20000 in
theorem gX12_site_X12_put : GoodIn wsX12_site (wsV RX12 247 RX12 yX12_put wsX12_put) := goodIn_app (goodIn_of _ (by decide +kernel)) ggX12_site_X12_put
theorem dX12_site_0 : decode cX12_site 0 = .ok (.iload_n 1, 1) := by decide +kernel
theorem dX12_site_1 : decode cX12_site 1 = .ok (.iload_n 2, 1) := by decide +kernel
theorem dX12_site_2 : decode cX12_site 2 = .ok (.invokestatic 235, 3) := by decide +kernel
theorem dX12_site_5 : decode cX12_site 5 = .ok (.ifCond .eq 23, 3) := by decide +kernel
theorem dX12_site_8 : decode cX12_site 8 = .ok (.iload_n 3, 1) := by decide +kernel
theorem dX12_site_9 : decode cX12_site 9 = .ok (.invokestatic 239, 3) := by decide +kernel
theorem dX12_site_12 : decode cX12_site 12 = .ok (.ifCond .eq 16, 3) := by decide +kernel
theorem dX12_site_15 : decode cX12_site 15 = .ok (.iload 4, 2) := by decide +kernel
theorem dX12_site_17 : decode cX12_site 17 = .ok (.i2l, 1) := by decide +kernel
theorem dX12_site_18 : decode cX12_site 18 = .ok (.lconst 1, 1) := by decide +kernel
theorem dX12_site_19 : decode cX12_site 19 = .ok (.ldc2_w 242, 3) := by decide +kernel
theorem dX12_site_22 : decode cX12_site 22 = .ok (.invokestatic 7, 3) := by decide +kernel
theorem dX12_site_25 : decode cX12_site 25 = .ok (.ifCond .ne 6, 3) := by decide +kernel
theorem dX12_site_28 : decode cX12_site 28 = .ok (.bipush (-2), 2) := by decide +kernel
theorem dX12_site_30 : decode cX12_site 30 = .ok (.ireturn, 1) := by decide +kernel
theorem dX12_site_31 : decode cX12_site 31 = .ok (.aload_n 0, 1) := by decide +kernel
theorem dX12_site_32 : decode cX12_site 32 = .ok (.getfield 244, 3) := by decide +kernel
theorem dX12_site_35 : decode cX12_site 35 = .ok (.bipush 40, 2) := by decide +kernel
theorem dX12_site_37 : decode cX12_site 37 = .ok (.if_icmp .ne 6, 3) := by decide +kernel
theorem dX12_site_40 : decode cX12_site 40 = .ok (.bipush (-3), 2) := by decide +kernel
theorem dX12_site_42 : decode cX12_site 42 = .ok (.ireturn, 1) := by decide +kernel
theorem dX12_site_43 : decode cX12_site 43 = .ok (.aload_n 0, 1) := by decide +kernel
theorem dX12_site_44 : decode cX12_site 44 = .ok (.getfield 244, 3) := by decide +kernel
theorem dX12_site_47 : decode cX12_site 47 = .ok (.istore 5, 2) := by decide +kernel
theorem dX12_site_49 : decode cX12_site 49 = .ok (.aload_n 0, 1) := by decide +kernel
theorem dX12_site_50 : decode cX12_site 50 = .ok (.dup, 1) := by decide +kernel
theorem dX12_site_51 : decode cX12_site 51 = .ok (.getfield 244, 3) := by decide +kernel
theorem dX12_site_54 : decode cX12_site 54 = .ok (.iconst 1, 1) := by decide +kernel
theorem dX12_site_55 : decode cX12_site 55 = .ok (.iadd, 1) := by decide +kernel
theorem dX12_site_56 : decode cX12_site 56 = .ok (.putfield 244, 3) := by decide +kernel
theorem dX12_site_59 : decode cX12_site 59 = .ok (.aload_n 0, 1) := by decide +kernel
theorem dX12_site_60 : decode cX12_site 60 = .ok (.getfield 130, 3) := by decide +kernel
theorem dX12_site_63 : decode cX12_site 63 = .ok (.iload 5, 2) := by decide +kernel
theorem dX12_site_65 : decode cX12_site 65 = .ok (.iconst 0, 1) := by decide +kernel
theorem dX12_site_66 : decode cX12_site 66 = .ok (.iastore, 1) := by decide +kernel
theorem dX12_site_67 : decode cX12_site 67 = .ok (.aload_n 0, 1) := by decide +kernel
theorem dX12_site_68 : decode cX12_site 68 = .ok (.iload 5, 2) := by decide +kernel
theorem dX12_site_70 : decode cX12_site 70 = .ok (.iload_n 1, 1) := by decide +kernel
theorem dX12_site_71 : decode cX12_site 71 = .ok (.iload_n 2, 1) := by decide +kernel
theorem dX12_site_72 : decode cX12_site 72 = .ok (.iload_n 3, 1) := by decide +kernel
theorem dX12_site_73 : decode cX12_site 73 = .ok (.iload 4, 2) := by decide +kernel
theorem dX12_site_75 : decode cX12_site 75 = .ok (.invokevirtual 247, 3) := by decide +kernel
theorem dX12_site_78 : decode cX12_site 78 = .ok (.istore 6, 2) := by decide +kernel
theorem dX12_site_80 : decode cX12_site 80 = .ok (.iload 5, 2) := by decide +kernel
theorem dX12_site_82 : decode cX12_site 82 = .ok (.ireturn, 1) := by decide +kernel
set_option maxRecDepth 20000 in
theorem ggX12_isSite_X12_in : GoodIn wsX12_isSite wsX12_in := goodIn_r _ [5] (by decide +kernel) (by decide +kernel)
set_option maxRecDepth 20000 in
theorem gX12_isSite_X12_in : GoodIn wsX12_isSite (va_wsS RX12 7 yX12_in wsX12_in) := goodIn_app (goodIn_of _ (by decide +kernel)) ggX12_isSite_X12_in
theorem dX12_isSite_0 : decode cX12_isSite 0 = .ok (.iload_n 1, 1) := by decide +kernel
theorem dX12_isSite_1 : decode cX12_isSite 1 = .ok (.i2l, 1) := by decide +kernel
theorem dX12_isSite_2 : decode cX12_isSite 2 = .ok (.lconst 0, 1) := by decide +kernel
theorem dX12_isSite_3 : decode cX12_isSite 3 = .ok (.aload_n 0, 1) := by decide +kernel
theorem dX12_isSite_4 : decode cX12_isSite 4 = .ok (.getfield 244, 3) := by decide +kernel
theorem dX12_isSite_7 : decode cX12_isSite 7 = .ok (.i2l, 1) := by decide +kernel
theorem dX12_isSite_8 : decode cX12_isSite 8 = .ok (.lconst 1, 1) := by decide +kernel
theorem dX12_isSite_9 : decode cX12_isSite 9 = .ok (.lsub, 1) := by decide +kernel
theorem dX12_isSite_10 : decode cX12_isSite 10 = .ok (.invokestatic 7, 3) := by decide +kernel
theorem dX12_isSite_13 : decode cX12_isSite 13 = .ok (.ireturn, 1) := by decide +kernel
set_option maxRecDepth 20000 in
theorem ggX12_renumber_X12_isSite : GoodIn wsX12_renumber wsX12_isSite := goodIn_r _ [9, 10, 11, 12, 8, 13, 32, 33, 34, 35, 36, 37, 38, 39, 40, 41, 42, 43, 44, 45, 46, 47, 48, 49, 50, 51, 52, 53, 54, 55, 56, 57, 58, 59, 60, 61, 62, 63, 64, 65, 66, 67, 68, 69, 70, 71, 72, 73, 74, 75, 76, 77, 78, 79, 80, 81, 82, 83, 84] (by decide +kernel) (by decide +kernel)
set_option maxRecDepth 20000 in
theorem gX12_renumber_X12_isSite : GoodIn wsX12_renumber (wsV RX12 251 RX12 yX12_isSite wsX12_isSite) := goodIn_app (goodIn_of _ (by decide +kernel)) ggX12_renumber_X12_isSite
set_option maxRecDepth 20000 in
theorem ggX12_renumber_X12_areYears : GoodIn wsX12_renumber wsX12_areYears := goodIn_r _ [16, 17, 18, 19, 8, 20, 21, 11, 12, 13] (by decide +kernel) (by decide +kernel)
set_option maxRecDepth 20000 in
theorem gX12_renumber_X12_areYears : GoodIn wsX12_renumber (va_wsS RX12 235 yX12_areYears wsX12_areYears) := goodIn_app (goodIn_of _ (by decide +kernel)) ggX12_renumber_X12_areYears
set_option maxRecDepth 20000 in
theorem ggX12_renumber_X12_in : GoodIn wsX12_renumber wsX12_in := goodIn_r _ [13] (by decide +kernel) (by decide +kernel)
set_option maxRecDepth 20000 in
theorem gX12_renumber_X12_in : GoodIn wsX12_renumber (va_wsS RX12 7 yX12_in wsX12_in) := goodIn_app (goodIn_of _ (by decide +kernel)) ggX12_renumber_X12_in
set_option maxRecDepth 20000 in
theorem ggX12_renumber_X12_isStreet : GoodIn wsX12_renumber wsX12_isStreet := goodIn_r _ [24, 25, 11, 12, 8, 13] (by decide +kernel) (by decide +kernel)
set_option maxRecDepth 20000 in
theorem gX12_renumber_X12_isStreet : GoodIn wsX12_renumber (va_wsS RX12 239 yX12_isStreet wsX12_isStreet) := goodIn_app (goodIn_of _ (by decide +kernel)) ggX12_renumber_X12_isStreet
set_option maxRecDepth 20000 in
theorem ggX12_renumber_X12_put : GoodIn wsX12_renumber wsX12_put := goodIn_r _ [29, 2, 30, 3, 31, 4, 32, 33, 34, 35, 36, 37, 38, 39, 40, 41, 42, 43, 44, 45, 46, 47, 48, 49, 50, 51, 52, 53, 54, 55, 56, 57, 58, 59, 60, 61, 62, 63, 64, 65, 66, 67, 68, 69, 70, 71, 72, 73, 74, 75, 76, 77, 78, 79, 80, 81, 82, 83, 84] (by decide +kernel) (by decide +kernel)
set_option maxRecDepth 20000 in
theorem gX12_renumber_X12_put : GoodIn wsX12_renumber (wsV RX12 247 RX12 yX12_put wsX12_put) := goodIn_app (goodIn_of _ (by decide +kernel)) ggX12_renumber_X12_put
theorem dX12_renumber_0 : decode cX12_renumber 0 = .ok (.aload_n 0, 1) := by decide +kernel
theorem dX12_renumber_1 : decode cX12_renumber 1 = .ok (.iload_n 1, 1) := by decide +kernel
theorem dX12_renumber_2 : decode cX12_renumber 2 = .ok (.invokevirtual 251, 3) := by decide +kernel
theorem dX12_renumber_5 : decode cX12_renumber 5 = .ok (.ifCond .eq 37, 3) := by decide +kernel
theorem dX12_renumber_8 : decode cX12_renumber 8 = .ok (.iload_n 2, 1) := by decide +kernel
theorem dX12_renumber_9 : decode cX12_renumber 9 = .ok (.iload_n 3, 1) := by decide +kernel
theorem dX12_renumber_10 : decode cX12_renumber 10 = .ok (.invokestatic 235, 3) := by decide +kernel
theorem dX12_renumber_13 : decode cX12_renumber 13 = .ok (.ifCond .eq 29, 3) := by decide +kernel
theorem dX12_renumber_16 : decode cX12_renumber 16 = .ok (.iload 5, 2) := by decide +kernel
theorem dX12_renumber_18 : decode cX12_renumber 18 = .ok (.i2l, 1) := by decide +kernel
theorem dX12_renumber_19 : decode cX12_renumber 19 = .ok (.lconst 0, 1) := by decide +kernel
theorem dX12_renumber_20 : decode cX12_renumber 20 = .ok (.ldc2_w 242, 3) := by decide +kernel
theorem dX12_renumber_23 : decode cX12_renumber 23 = .ok (.invokestatic 7, 3) := by decide +kernel
theorem dX12_renumber_26 : decode cX12_renumber 26 = .ok (.ifCond .eq 16, 3) := by decide +kernel
theorem dX12_renumber_29 : decode cX12_renumber 29 = .ok (.iload 5, 2) := by decide +kernel
theorem dX12_renumber_31 : decode cX12_renumber 31 = .ok (.ifCond .le 14, 3) := by decide +kernel
theorem dX12_renumber_34 : decode cX12_renumber 34 = .ok (.iload 4, 2) := by decide +kernel
theorem dX12_renumber_36 : decode cX12_renumber 36 = .ok (.invokestatic 239, 3) := by decide +kernel
theorem dX12_renumber_39 : decode cX12_renumber 39 = .ok (.ifCond .ne 6, 3) := by decide +kernel
theorem dX12_renumber_42 : decode cX12_renumber 42 = .ok (.bipush (-2), 2) := by decide +kernel
theorem dX12_renumber_44 : decode cX12_renumber 44 = .ok (.ireturn, 1) := by decide +kernel
theorem dX12_renumber_45 : decode cX12_renumber 45 = .ok (.bipush 8, 2) := by decide +kernel
theorem dX12_renumber_47 : decode cX12_renumber 47 = .ok (.iload_n 1, 1) := by decide +kernel
theorem dX12_renumber_48 : decode cX12_renumber 48 = .ok (.imul, 1) := by decide +kernel
theorem dX12_renumber_49 : decode cX12_renumber 49 = .ok (.aload_n 0, 1) := by decide +kernel
theorem dX12_renumber_50 : decode cX12_renumber 50 = .ok (.getfield 130, 3) := by decide +kernel
theorem dX12_renumber_53 : decode cX12_renumber 53 = .ok (.iload_n 1, 1) := by decide +kernel
theorem dX12_renumber_54 : decode cX12_renumber 54 = .ok (.iaload, 1) := by decide +kernel
theorem dX12_renumber_55 : decode cX12_renumber 55 = .ok (.iadd, 1) := by decide +kernel
theorem dX12_renumber_56 : decode cX12_renumber 56 = .ok (.iconst 1, 1) := by decide +kernel
theorem dX12_renumber_57 : decode cX12_renumber 57 = .ok (.isub, 1) := by decide +kernel
theorem dX12_renumber_58 : decode cX12_renumber 58 = .ok (.istore 6, 2) := by decide +kernel
theorem dX12_renumber_60 : decode cX12_renumber 60 = .ok (.iload_n 2, 1) := by decide +kernel
theorem dX12_renumber_61 : decode cX12_renumber 61 = .ok (.aload_n 0, 1) := by decide +kernel
theorem dX12_renumber_62 : decode cX12_renumber 62 = .ok (.getfield 136, 3) := by decide +kernel
theorem dX12_renumber_65 : decode cX12_renumber 65 = .ok (.iload 6, 2) := by decide +kernel
theorem dX12_renumber_67 : decode cX12_renumber 67 = .ok (.iaload, 1) := by decide +kernel
theorem dX12_renumber_68 : decode cX12_renumber 68 = .ok (.if_icmp .le 13, 3) := by decide +kernel
theorem dX12_renumber_71 : decode cX12_renumber 71 = .ok (.aload_n 0, 1) := by decide +kernel
theorem dX12_renumber_72 : decode cX12_renumber 72 = .ok (.getfield 142, 3) := by decide +kernel
theorem dX12_renumber_75 : decode cX12_renumber 75 = .ok (.iload 6, 2) := by decide +kernel
theorem dX12_renumber_77 : decode cX12_renumber 77 = .ok (.iaload, 1) := by decide +kernel
theorem dX12_renumber_78 : decode cX12_renumber 78 = .ok (.ifCond .ne 6, 3) := by decide +kernel
theorem dX12_renumber_81 : decode cX12_renumber 81 = .ok (.bipush (-2), 2) := by decide +kernel
theorem dX12_renumber_83 : decode cX12_renumber 83 = .ok (.ireturn, 1) := by decide +kernel
theorem dX12_renumber_84 : decode cX12_renumber 84 = .ok (.aload_n 0, 1) := by decide +kernel
theorem dX12_renumber_85 : decode cX12_renumber 85 = .ok (.getfield 130, 3) := by decide +kernel
theorem dX12_renumber_88 : decode cX12_renumber 88 = .ok (.iload_n 1, 1) := by decide +kernel
theorem dX12_renumber_89 : decode cX12_renumber 89 = .ok (.iaload, 1) := by decide +kernel
theorem dX12_renumber_90 : decode cX12_renumber 90 = .ok (.bipush 8, 2) := by decide +kernel
theorem dX12_renumber_92 : decode cX12_renumber 92 = .ok (.if_icmp .ne 8, 3) := by decide +kernel
theorem dX12_renumber_95 : decode cX12_renumber 95 = .ok (.bipush (-3), 2) := by decide +kernel
theorem dX12_renumber_97 : decode cX12_renumber 97 = .ok (.goto 14, 3) := by decide +kernel
theorem dX12_renumber_100 : decode cX12_renumber 100 = .ok (.aload_n 0, 1) := by decide +kernel
theorem dX12_renumber_101 : decode cX12_renumber 101 = .ok (.iload_n 1, 1) := by decide +kernel
theorem dX12_renumber_102 : decode cX12_renumber 102 = .ok (.iload_n 2, 1) := by decide +kernel
theorem dX12_renumber_103 : decode cX12_renumber 103 = .ok (.iload_n 3, 1) := by decide +kernel
theorem dX12_renumber_104 : decode cX12_renumber 104 = .ok (.iload 4, 2) := by decide +kernel
theorem dX12_renumber_106 : decode cX12_renumber 106 = .ok (.iload 5, 2) := by decide +kernel
theorem dX12_renumber_108 : decode cX12_renumber 108 = .ok (.invokevirtual 247, 3) := by decide +kernel
theorem dX12_renumber_111 : decode cX12_renumber 111 = .ok (.ireturn, 1) := by decide +kernel
theorem dX12_hasNext_0 : decode cX12_hasNext 0 = .ok (.iload_n 2, 1) := by decide +kernel
theorem dX12_hasNext_1 : decode cX12_hasNext 1 = .ok (.aload_n 0, 1) := by decide +kernel
theorem dX12_hasNext_2 : decode cX12_hasNext 2 = .ok (.getfield 130, 3) := by decide +kernel
theorem dX12_hasNext_5 : decode cX12_hasNext 5 = .ok (.iload_n 1, 1) := by decide +kernel
theorem dX12_hasNext_6 : decode cX12_hasNext 6 = .ok (.iaload, 1) := by decide +kernel
theorem dX12_hasNext_7 : decode cX12_hasNext 7 = .ok (.iconst 1, 1) := by decide +kernel
theorem dX12_hasNext_8 : decode cX12_hasNext 8 = .ok (.isub, 1) := by decide +kernel
theorem dX12_hasNext_9 : decode cX12_hasNext 9 = .ok (.if_icmp .ge 7, 3) := by decide +kernel
theorem dX12_hasNext_12 : decode cX12_hasNext 12 = .ok (.iconst 1, 1) := by decide +kernel
theorem dX12_hasNext_13 : decode cX12_hasNext 13 = .ok (.goto 4, 3) := by decide +kernel
theorem dX12_hasNext_16 : decode cX12_hasNext 16 = .ok (.iconst 0, 1) := by decide +kernel
theorem dX12_hasNext_17 : decode cX12_hasNext 17 = .ok (.ireturn, 1) := by decide +kernel
set_option maxRecDepth 20000 in
theorem ggX12_mayHold_X12_hasNext : GoodIn wsX12_mayHold wsX12_hasNext := goodIn_r _ [7, 8, 9, 10, 11, 12, 13, 14, 15, 16, 17, 18, 19, 20, 21, 22, 23, 24, 25, 26, 27, 28, 29, 30, 31, 32, 33, 34, 35, 36, 37, 38, 39, 40, 41, 42, 43, 44, 45, 46, 47, 48, 49, 50, 51, 52, 53, 54, 55, 56, 57, 58, 59, 60, 61] (by decide +kernel) (by decide +kernel)
set_option maxRecDepth 20000 in
theorem gX12_mayHold_X12_hasNext : GoodIn wsX12_mayHold (wsV RX12 254 RX12 yX12_hasNext wsX12_hasNext) := goodIn_app (goodIn_of _ (by decide +kernel)) ggX12_mayHold_X12_hasNext
theorem dX12_mayHold_0 : decode cX12_mayHold 0 = .ok (.bipush 8, 2) := by decide +kernel
theorem dX12_mayHold_2 : decode cX12_mayHold 2 = .ok (.iload_n 1, 1) := by decide +kernel
theorem dX12_mayHold_3 : decode cX12_mayHold 3 = .ok (.imul, 1) := by decide +kernel
theorem dX12_mayHold_4 : decode cX12_mayHold 4 = .ok (.iload_n 2, 1) := by decide +kernel
theorem dX12_mayHold_5 : decode cX12_mayHold 5 = .ok (.iadd, 1) := by decide +kernel
theorem dX12_mayHold_6 : decode cX12_mayHold 6 = .ok (.istore 4, 2) := by decide +kernel
theorem dX12_mayHold_8 : decode cX12_mayHold 8 = .ok (.aload_n 0, 1) := by decide +kernel
theorem dX12_mayHold_9 : decode cX12_mayHold 9 = .ok (.getfield 133, 3) := by decide +kernel
theorem dX12_mayHold_12 : decode cX12_mayHold 12 = .ok (.iload 4, 2) := by decide +kernel
theorem dX12_mayHold_14 : decode cX12_mayHold 14 = .ok (.iaload, 1) := by decide +kernel
theorem dX12_mayHold_15 : decode cX12_mayHold 15 = .ok (.iload_n 3, 1) := by decide +kernel
theorem dX12_mayHold_16 : decode cX12_mayHold 16 = .ok (.if_icmp .gt 29, 3) := by decide +kernel
theorem dX12_mayHold_19 : decode cX12_mayHold 19 = .ok (.aload_n 0, 1) := by decide +kernel
theorem dX12_mayHold_20 : decode cX12_mayHold 20 = .ok (.iload_n 1, 1) := by decide +kernel
theorem dX12_mayHold_21 : decode cX12_mayHold 21 = .ok (.iload_n 2, 1) := by decide +kernel
theorem dX12_mayHold_22 : decode cX12_mayHold 22 = .ok (.invokevirtual 254, 3) := by decide +kernel
theorem dX12_mayHold_25 : decode cX12_mayHold 25 = .ok (.ifCond .eq 16, 3) := by decide +kernel
theorem dX12_mayHold_28 : decode cX12_mayHold 28 = .ok (.aload_n 0, 1) := by decide +kernel
theorem dX12_mayHold_29 : decode cX12_mayHold 29 = .ok (.getfield 136, 3) := by decide +kernel
theorem dX12_mayHold_32 : decode cX12_mayHold 32 = .ok (.iload 4, 2) := by decide +kernel
theorem dX12_mayHold_34 : decode cX12_mayHold 34 = .ok (.iconst 1, 1) := by decide +kernel
theorem dX12_mayHold_35 : decode cX12_mayHold 35 = .ok (.iadd, 1) := by decide +kernel
theorem dX12_mayHold_36 : decode cX12_mayHold 36 = .ok (.iaload, 1) := by decide +kernel
theorem dX12_mayHold_37 : decode cX12_mayHold 37 = .ok (.iload_n 3, 1) := by decide +kernel
theorem dX12_mayHold_38 : decode cX12_mayHold 38 = .ok (.if_icmp .le 7, 3) := by decide +kernel
theorem dX12_mayHold_41 : decode cX12_mayHold 41 = .ok (.iconst 1, 1) := by decide +kernel
theorem dX12_mayHold_42 : decode cX12_mayHold 42 = .ok (.goto 4, 3) := by decide +kernel
theorem dX12_mayHold_45 : decode cX12_mayHold 45 = .ok (.iconst 0, 1) := by decide +kernel
theorem dX12_mayHold_46 : decode cX12_mayHold 46 = .ok (.ireturn, 1) := by decide +kernel
set_option maxRecDepth 20000 in
theorem ggX12_surelyHolds_X12_hasNext : GoodIn wsX12_surelyHolds wsX12_hasNext := goodIn_r _ [7, 8, 9, 10, 11, 12, 13, 14, 15, 16, 17, 18, 19, 20, 21, 22, 23, 24, 25, 26, 27, 28, 29, 30, 31, 32, 33, 34, 35, 36, 37, 38, 39, 40, 41, 42, 43, 44, 45, 46, 47, 48, 49, 50, 51, 52, 53, 54, 55, 56, 57, 58, 59, 60, 61] (by decide +kernel) (by decide +kernel)
set_option maxRecDepth 20000 in
theorem gX12_surelyHolds_X12_hasNext : GoodIn wsX12_surelyHolds (wsV RX12 254 RX12 yX12_hasNext wsX12_hasNext) := goodIn_app (goodIn_of _ (by decide +kernel)) ggX12_surelyHolds_X12_hasNext
theorem dX12_surelyHolds_0 : decode cX12_surelyHolds 0 = .ok (.bipush 8, 2) := by decide +kernel
theorem dX12_surelyHolds_2 : decode cX12_surelyHolds 2 = .ok (.iload_n 1, 1) := by decide +kernel
theorem dX12_surelyHolds_3 : decode cX12_surelyHolds 3 = .ok (.imul, 1) := by decide +kernel
theorem dX12_surelyHolds_4 : decode cX12_surelyHolds 4 = .ok (.iload_n 2, 1) := by decide +kernel
theorem dX12_surelyHolds_5 : decode cX12_surelyHolds 5 = .ok (.iadd, 1) := by decide +kernel
theorem dX12_surelyHolds_6 : decode cX12_surelyHolds 6 = .ok (.istore 4, 2) := by decide +kernel
theorem dX12_surelyHolds_8 : decode cX12_surelyHolds 8 = .ok (.aload_n 0, 1) := by decide +kernel
theorem dX12_surelyHolds_9 : decode cX12_surelyHolds 9 = .ok (.getfield 136, 3) := by decide +kernel
theorem dX12_surelyHolds_12 : decode cX12_surelyHolds 12 = .ok (.iload 4, 2) := by decide +kernel
theorem dX12_surelyHolds_14 : decode cX12_surelyHolds 14 = .ok (.iaload, 1) := by decide +kernel
theorem dX12_surelyHolds_15 : decode cX12_surelyHolds 15 = .ok (.iload_n 3, 1) := by decide +kernel
theorem dX12_surelyHolds_16 : decode cX12_surelyHolds 16 = .ok (.if_icmp .gt 29, 3) := by decide +kernel
theorem dX12_surelyHolds_19 : decode cX12_surelyHolds 19 = .ok (.aload_n 0, 1) := by decide +kernel
theorem dX12_surelyHolds_20 : decode cX12_surelyHolds 20 = .ok (.iload_n 1, 1) := by decide +kernel
theorem dX12_surelyHolds_21 : decode cX12_surelyHolds 21 = .ok (.iload_n 2, 1) := by decide +kernel
theorem dX12_surelyHolds_22 : decode cX12_surelyHolds 22 = .ok (.invokevirtual 254, 3) := by decide +kernel
theorem dX12_surelyHolds_25 : decode cX12_surelyHolds 25 = .ok (.ifCond .eq 16, 3) := by decide +kernel
theorem dX12_surelyHolds_28 : decode cX12_surelyHolds 28 = .ok (.aload_n 0, 1) := by decide +kernel
theorem dX12_surelyHolds_29 : decode cX12_surelyHolds 29 = .ok (.getfield 133, 3) := by decide +kernel
theorem dX12_surelyHolds_32 : decode cX12_surelyHolds 32 = .ok (.iload 4, 2) := by decide +kernel
theorem dX12_surelyHolds_34 : decode cX12_surelyHolds 34 = .ok (.iconst 1, 1) := by decide +kernel
theorem dX12_surelyHolds_35 : decode cX12_surelyHolds 35 = .ok (.iadd, 1) := by decide +kernel
theorem dX12_surelyHolds_36 : decode cX12_surelyHolds 36 = .ok (.iaload, 1) := by decide +kernel
theorem dX12_surelyHolds_37 : decode cX12_surelyHolds 37 = .ok (.iload_n 3, 1) := by decide +kernel
theorem dX12_surelyHolds_38 : decode cX12_surelyHolds 38 = .ok (.if_icmp .le 7, 3) := by decide +kernel
theorem dX12_surelyHolds_41 : decode cX12_surelyHolds 41 = .ok (.iconst 1, 1) := by decide +kernel
theorem dX12_surelyHolds_42 : decode cX12_surelyHolds 42 = .ok (.goto 4, 3) := by decide +kernel
theorem dX12_surelyHolds_45 : decode cX12_surelyHolds 45 = .ok (.iconst 0, 1) := by decide +kernel
theorem dX12_surelyHolds_46 : decode cX12_surelyHolds 46 = .ok (.ireturn, 1) := by decide +kernel
set_option maxRecDepth 20000 in
theorem ggX12_possibly_X12_mayHold : GoodIn wsX12_possibly wsX12_mayHold := goodIn_r _ [9, 10, 11, 12, 13, 14, 8, 15, 2, 16, 17, 18, 19, 20, 21, 22, 23, 24, 25, 26, 27, 28, 29, 30, 31, 32, 33, 34, 35, 36, 37, 38, 39, 40, 41, 42, 43, 44, 45, 46, 47, 48, 49, 50, 51, 52, 53, 54, 55, 56, 57, 58, 59, 60, 61, 62, 63, 64, 65, 66, 67, 68] (by decide +kernel) (by decide +kernel)
set_option maxRecDepth 20000 in
theorem gX12_possibly_X12_mayHold : GoodIn wsX12_possibly (wsV RX12 257 RX12 yX12_mayHold wsX12_mayHold) := goodIn_app (goodIn_of _ (by decide +kernel)) ggX12_possibly_X12_mayHold
theorem dX12_possibly_0 : decode cX12_possibly 0 = .ok (.lconst 0, 1) := by decide +kernel
theorem dX12_possibly_1 : decode cX12_possibly 1 = .ok (.lstore 4, 2) := by decide +kernel
theorem dX12_possibly_3 : decode cX12_possibly 3 = .ok (.iconst 0, 1) := by decide +kernel
theorem dX12_possibly_4 : decode cX12_possibly 4 = .ok (.istore 6, 2) := by decide +kernel
theorem dX12_possibly_6 : decode cX12_possibly 6 = .ok (.iload 6, 2) := by decide +kernel
theorem dX12_possibly_8 : decode cX12_possibly 8 = .ok (.aload_n 0, 1) := by decide +kernel
theorem dX12_possibly_9 : decode cX12_possibly 9 = .ok (.getfield 244, 3) := by decide +kernel
theorem dX12_possibly_12 : decode cX12_possibly 12 = .ok (.if_icmp .ge 85, 3) := by decide +kernel
theorem dX12_possibly_15 : decode cX12_possibly 15 = .ok (.iconst 0, 1) := by decide +kernel
theorem dX12_possibly_16 : decode cX12_possibly 16 = .ok (.istore 7, 2) := by decide +kernel
theorem dX12_possibly_18 : decode cX12_possibly 18 = .ok (.iload 7, 2) := by decide +kernel
theorem dX12_possibly_20 : decode cX12_possibly 20 = .ok (.aload_n 0, 1) := by decide +kernel
theorem dX12_possibly_21 : decode cX12_possibly 21 = .ok (.getfield 130, 3) := by decide +kernel
theorem dX12_possibly_24 : decode cX12_possibly 24 = .ok (.iload 6, 2) := by decide +kernel
theorem dX12_possibly_26 : decode cX12_possibly 26 = .ok (.iaload, 1) := by decide +kernel
theorem dX12_possibly_27 : decode cX12_possibly 27 = .ok (.if_icmp .ge 64, 3) := by decide +kernel
theorem dX12_possibly_30 : decode cX12_possibly 30 = .ok (.aload_n 0, 1) := by decide +kernel
theorem dX12_possibly_31 : decode cX12_possibly 31 = .ok (.getfield 142, 3) := by decide +kernel
theorem dX12_possibly_34 : decode cX12_possibly 34 = .ok (.bipush 8, 2) := by decide +kernel
theorem dX12_possibly_36 : decode cX12_possibly 36 = .ok (.iload 6, 2) := by decide +kernel
theorem dX12_possibly_38 : decode cX12_possibly 38 = .ok (.imul, 1) := by decide +kernel
theorem dX12_possibly_39 : decode cX12_possibly 39 = .ok (.iload 7, 2) := by decide +kernel
theorem dX12_possibly_41 : decode cX12_possibly 41 = .ok (.iadd, 1) := by decide +kernel
theorem dX12_possibly_42 : decode cX12_possibly 42 = .ok (.iaload, 1) := by decide +kernel
theorem dX12_possibly_43 : decode cX12_possibly 43 = .ok (.iload_n 2, 1) := by decide +kernel
theorem dX12_possibly_44 : decode cX12_possibly 44 = .ok (.if_icmp .ne 41, 3) := by decide +kernel
theorem dX12_possibly_47 : decode cX12_possibly 47 = .ok (.aload_n 0, 1) := by decide +kernel
theorem dX12_possibly_48 : decode cX12_possibly 48 = .ok (.getfield 139, 3) := by decide +kernel
theorem dX12_possibly_51 : decode cX12_possibly 51 = .ok (.bipush 8, 2) := by decide +kernel
theorem dX12_possibly_53 : decode cX12_possibly 53 = .ok (.iload 6, 2) := by decide +kernel
theorem dX12_possibly_55 : decode cX12_possibly 55 = .ok (.imul, 1) := by decide +kernel
theorem dX12_possibly_56 : decode cX12_possibly 56 = .ok (.iload 7, 2) := by decide +kernel
theorem dX12_possibly_58 : decode cX12_possibly 58 = .ok (.iadd, 1) := by decide +kernel
theorem dX12_possibly_59 : decode cX12_possibly 59 = .ok (.iaload, 1) := by decide +kernel
theorem dX12_possibly_60 : decode cX12_possibly 60 = .ok (.iload_n 1, 1) := by decide +kernel
theorem dX12_possibly_61 : decode cX12_possibly 61 = .ok (.if_icmp .ne 24, 3) := by decide +kernel
theorem dX12_possibly_64 : decode cX12_possibly 64 = .ok (.aload_n 0, 1) := by decide +kernel
theorem dX12_possibly_65 : decode cX12_possibly 65 = .ok (.iload 6, 2) := by decide +kernel
theorem dX12_possibly_67 : decode cX12_possibly 67 = .ok (.iload 7, 2) := by decide +kernel
theorem dX12_possibly_69 : decode cX12_possibly 69 = .ok (.iload_n 3, 1) := by decide +kernel
theorem dX12_possibly_70 : decode cX12_possibly 70 = .ok (.invokevirtual 257, 3) := by decide +kernel
theorem dX12_possibly_73 : decode cX12_possibly 73 = .ok (.ifCond .eq 12, 3) := by decide +kernel
theorem dX12_possibly_76 : decode cX12_possibly 76 = .ok (.lload 4, 2) := by decide +kernel
theorem dX12_possibly_78 : decode cX12_possibly 78 = .ok (.lconst 1, 1) := by decide +kernel
theorem dX12_possibly_79 : decode cX12_possibly 79 = .ok (.iload 6, 2) := by decide +kernel
theorem dX12_possibly_81 : decode cX12_possibly 81 = .ok (.lshl, 1) := by decide +kernel
theorem dX12_possibly_82 : decode cX12_possibly 82 = .ok (.lor, 1) := by decide +kernel
theorem dX12_possibly_83 : decode cX12_possibly 83 = .ok (.lstore 4, 2) := by decide +kernel
theorem dX12_possibly_85 : decode cX12_possibly 85 = .ok (.iinc 7 1, 3) := by decide +kernel
theorem dX12_possibly_88 : decode cX12_possibly 88 = .ok (.goto (-70), 3) := by decide +kernel
theorem dX12_possibly_91 : decode cX12_possibly 91 = .ok (.iinc 6 1, 3) := by decide +kernel
theorem dX12_possibly_94 : decode cX12_possibly 94 = .ok (.goto (-88), 3) := by decide +kernel
theorem dX12_possibly_97 : decode cX12_possibly 97 = .ok (.lload 4, 2) := by decide +kernel
theorem dX12_possibly_99 : decode cX12_possibly 99 = .ok (.lreturn, 1) := by decide +kernel
set_option maxRecDepth 20000 in
theorem ggX12_surelyIs_X12_possibly : GoodIn wsX12_surelyIs wsX12_possibly := goodIn_r _ [8, 9, 1, 2, 3, 10, 11, 12, 7, 13, 14, 15, 16, 17, 18, 19, 24, 25, 26, 27, 28, 29, 30, 31, 32, 33, 34, 35, 36, 37, 38, 39, 40, 41, 42, 43, 44, 45, 46, 47, 48, 49, 50, 51, 52, 53, 54, 55, 56, 57, 58, 59, 60, 61, 62, 63, 64, 65, 66, 67, 68, 69, 70, 71, 72, 73, 74, 75, 76] (by decide +kernel) (by decide +kernel)
set_option maxRecDepth 20000 in
theorem gX12_surelyIs_X12_possibly : GoodIn wsX12_surelyIs (wsV RX12 261 RX12 yX12_possibly wsX12_possibly) := goodIn_app (goodIn_of _ (by decide +kernel)) ggX12_surelyIs_X12_possibly
set_option maxRecDepth 20000 in
theorem ggX12_surelyIs_X12_surelyHolds : GoodIn wsX12_surelyIs wsX12_surelyHolds := goodIn_r _ [23, 15, 14, 16, 17, 18, 7, 19, 1, 24, 25, 26, 27, 28, 29, 30, 31, 32, 33, 34, 35, 36, 37, 38, 39, 40, 41, 42, 43, 44, 45, 46, 47, 48, 49, 50, 51, 52, 53, 54, 55, 56, 57, 58, 59, 60, 61, 62, 63, 64, 65, 66, 67, 68, 69, 70, 71, 72, 73, 74, 75, 76] (by decide +kernel) (by decide +kernel)
set_option maxRecDepth 20000 in
theorem gX12_surelyIs_X12_surelyHolds : GoodIn wsX12_surelyIs (wsV RX12 265 RX12 yX12_surelyHolds wsX12_surelyHolds) := goodIn_app (goodIn_of _ (by decide +kernel)) ggX12_surelyIs_X12_surelyHolds
theorem dX12_surelyIs_0 : decode cX12_surelyIs 0 = .ok (.aload_n 0, 1) := by decide +kernel
theorem dX12_surelyIs_1 : decode cX12_surelyIs 1 = .ok (.iload_n 1, 1) := by decide +kernel
theorem dX12_surelyIs_2 : decode cX12_surelyIs 2 = .ok (.iload_n 2, 1) := by decide +kernel
theorem dX12_surelyIs_3 : decode cX12_surelyIs 3 = .ok (.iload_n 3, 1) := by decide +kernel
theorem dX12_surelyIs_4 : decode cX12_surelyIs 4 = .ok (.invokevirtual 261, 3) := by decide +kernel
theorem dX12_surelyIs_7 : decode cX12_surelyIs 7 = .ok (.lstore 4, 2) := by decide +kernel
theorem dX12_surelyIs_9 : decode cX12_surelyIs 9 = .ok (.lload 4, 2) := by decide +kernel
theorem dX12_surelyIs_11 : decode cX12_surelyIs 11 = .ok (.lconst 0, 1) := by decide +kernel
theorem dX12_surelyIs_12 : decode cX12_surelyIs 12 = .ok (.lcmp, 1) := by decide +kernel
theorem dX12_surelyIs_13 : decode cX12_surelyIs 13 = .ok (.ifCond .eq 15, 3) := by decide +kernel
theorem dX12_surelyIs_16 : decode cX12_surelyIs 16 = .ok (.lload 4, 2) := by decide +kernel
theorem dX12_surelyIs_18 : decode cX12_surelyIs 18 = .ok (.lload 4, 2) := by decide +kernel
theorem dX12_surelyIs_20 : decode cX12_surelyIs 20 = .ok (.lconst 1, 1) := by decide +kernel
theorem dX12_surelyIs_21 : decode cX12_surelyIs 21 = .ok (.lsub, 1) := by decide +kernel
theorem dX12_surelyIs_22 : decode cX12_surelyIs 22 = .ok (.land, 1) := by decide +kernel
theorem dX12_surelyIs_23 : decode cX12_surelyIs 23 = .ok (.lconst 0, 1) := by decide +kernel
theorem dX12_surelyIs_24 : decode cX12_surelyIs 24 = .ok (.lcmp, 1) := by decide +kernel
theorem dX12_surelyIs_25 : decode cX12_surelyIs 25 = .ok (.ifCond .eq 5, 3) := by decide +kernel
theorem dX12_surelyIs_28 : decode cX12_surelyIs 28 = .ok (.iconst (-1), 1) := by decide +kernel
theorem dX12_surelyIs_29 : decode cX12_surelyIs 29 = .ok (.ireturn, 1) := by decide +kernel
theorem dX12_surelyIs_30 : decode cX12_surelyIs 30 = .ok (.iconst 0, 1) := by decide +kernel
theorem dX12_surelyIs_31 : decode cX12_surelyIs 31 = .ok (.istore 6, 2) := by decide +kernel
theorem dX12_surelyIs_33 : decode cX12_surelyIs 33 = .ok (.lload 4, 2) := by decide +kernel
theorem dX12_surelyIs_35 : decode cX12_surelyIs 35 = .ok (.iload 6, 2) := by decide +kernel
theorem dX12_surelyIs_37 : decode cX12_surelyIs 37 = .ok (.lshr, 1) := by decide +kernel
theorem dX12_surelyIs_38 : decode cX12_surelyIs 38 = .ok (.lconst 1, 1) := by decide +kernel
theorem dX12_surelyIs_39 : decode cX12_surelyIs 39 = .ok (.land, 1) := by decide +kernel
theorem dX12_surelyIs_40 : decode cX12_surelyIs 40 = .ok (.lconst 0, 1) := by decide +kernel
theorem dX12_surelyIs_41 : decode cX12_surelyIs 41 = .ok (.lcmp, 1) := by decide +kernel
theorem dX12_surelyIs_42 : decode cX12_surelyIs 42 = .ok (.ifCond .ne 9, 3) := by decide +kernel
theorem dX12_surelyIs_45 : decode cX12_surelyIs 45 = .ok (.iinc 6 1, 3) := by decide +kernel
theorem dX12_surelyIs_48 : decode cX12_surelyIs 48 = .ok (.goto (-15), 3) := by decide +kernel
theorem dX12_surelyIs_51 : decode cX12_surelyIs 51 = .ok (.iconst 0, 1) := by decide +kernel
theorem dX12_surelyIs_52 : decode cX12_surelyIs 52 = .ok (.istore 7, 2) := by decide +kernel
theorem dX12_surelyIs_54 : decode cX12_surelyIs 54 = .ok (.iload 7, 2) := by decide +kernel
theorem dX12_surelyIs_56 : decode cX12_surelyIs 56 = .ok (.aload_n 0, 1) := by decide +kernel
theorem dX12_surelyIs_57 : decode cX12_surelyIs 57 = .ok (.getfield 130, 3) := by decide +kernel
theorem dX12_surelyIs_60 : decode cX12_surelyIs 60 = .ok (.iload 6, 2) := by decide +kernel
theorem dX12_surelyIs_62 : decode cX12_surelyIs 62 = .ok (.iaload, 1) := by decide +kernel
theorem dX12_surelyIs_63 : decode cX12_surelyIs 63 = .ok (.if_icmp .ge 58, 3) := by decide +kernel
theorem dX12_surelyIs_66 : decode cX12_surelyIs 66 = .ok (.aload_n 0, 1) := by decide +kernel
theorem dX12_surelyIs_67 : decode cX12_surelyIs 67 = .ok (.getfield 142, 3) := by decide +kernel
theorem dX12_surelyIs_70 : decode cX12_surelyIs 70 = .ok (.bipush 8, 2) := by decide +kernel
theorem dX12_surelyIs_72 : decode cX12_surelyIs 72 = .ok (.iload 6, 2) := by decide +kernel
theorem dX12_surelyIs_74 : decode cX12_surelyIs 74 = .ok (.imul, 1) := by decide +kernel
theorem dX12_surelyIs_75 : decode cX12_surelyIs 75 = .ok (.iload 7, 2) := by decide +kernel
theorem dX12_surelyIs_77 : decode cX12_surelyIs 77 = .ok (.iadd, 1) := by decide +kernel
theorem dX12_surelyIs_78 : decode cX12_surelyIs 78 = .ok (.iaload, 1) := by decide +kernel
theorem dX12_surelyIs_79 : decode cX12_surelyIs 79 = .ok (.iload_n 2, 1) := by decide +kernel
theorem dX12_surelyIs_80 : decode cX12_surelyIs 80 = .ok (.if_icmp .ne 35, 3) := by decide +kernel
theorem dX12_surelyIs_83 : decode cX12_surelyIs 83 = .ok (.aload_n 0, 1) := by decide +kernel
theorem dX12_surelyIs_84 : decode cX12_surelyIs 84 = .ok (.getfield 139, 3) := by decide +kernel
theorem dX12_surelyIs_87 : decode cX12_surelyIs 87 = .ok (.bipush 8, 2) := by decide +kernel
theorem dX12_surelyIs_89 : decode cX12_surelyIs 89 = .ok (.iload 6, 2) := by decide +kernel
theorem dX12_surelyIs_91 : decode cX12_surelyIs 91 = .ok (.imul, 1) := by decide +kernel
theorem dX12_surelyIs_92 : decode cX12_surelyIs 92 = .ok (.iload 7, 2) := by decide +kernel
theorem dX12_surelyIs_94 : decode cX12_surelyIs 94 = .ok (.iadd, 1) := by decide +kernel
theorem dX12_surelyIs_95 : decode cX12_surelyIs 95 = .ok (.iaload, 1) := by decide +kernel
theorem dX12_surelyIs_96 : decode cX12_surelyIs 96 = .ok (.iload_n 1, 1) := by decide +kernel
theorem dX12_surelyIs_97 : decode cX12_surelyIs 97 = .ok (.if_icmp .ne 18, 3) := by decide +kernel
theorem dX12_surelyIs_100 : decode cX12_surelyIs 100 = .ok (.aload_n 0, 1) := by decide +kernel
theorem dX12_surelyIs_101 : decode cX12_surelyIs 101 = .ok (.iload 6, 2) := by decide +kernel
theorem dX12_surelyIs_103 : decode cX12_surelyIs 103 = .ok (.iload 7, 2) := by decide +kernel
theorem dX12_surelyIs_105 : decode cX12_surelyIs 105 = .ok (.iload_n 3, 1) := by decide +kernel
theorem dX12_surelyIs_106 : decode cX12_surelyIs 106 = .ok (.invokevirtual 265, 3) := by decide +kernel
theorem dX12_surelyIs_109 : decode cX12_surelyIs 109 = .ok (.ifCond .eq 6, 3) := by decide +kernel
theorem dX12_surelyIs_112 : decode cX12_surelyIs 112 = .ok (.iload 6, 2) := by decide +kernel
theorem dX12_surelyIs_114 : decode cX12_surelyIs 114 = .ok (.ireturn, 1) := by decide +kernel
theorem dX12_surelyIs_115 : decode cX12_surelyIs 115 = .ok (.iinc 7 1, 3) := by decide +kernel
theorem dX12_surelyIs_118 : decode cX12_surelyIs 118 = .ok (.goto (-64), 3) := by decide +kernel
theorem dX12_surelyIs_121 : decode cX12_surelyIs 121 = .ok (.iconst (-1), 1) := by decide +kernel
theorem dX12_surelyIs_122 : decode cX12_surelyIs 122 = .ok (.ireturn, 1) := by decide +kernel
set_option maxRecDepth 20000 in
theorem ggX12_possible_X12_isStreet : GoodIn wsX12_possible wsX12_isStreet := goodIn_r _ [6, 7, 8, 9, 5, 10] (by decide +kernel) (by decide +kernel)
set_option maxRecDepth 20000 in
theorem gX12_possible_X12_isStreet : GoodIn wsX12_possible (va_wsS RX12 239 yX12_isStreet wsX12_isStreet) := goodIn_app (goodIn_of _ (by decide +kernel)) ggX12_possible_X12_isStreet
set_option maxRecDepth 20000 in
theorem ggX12_possible_X12_in : GoodIn wsX12_possible wsX12_in := goodIn_r _ [10] (by decide +kernel) (by decide +kernel)
set_option maxRecDepth 20000 in
theorem gX12_possible_X12_in : GoodIn wsX12_possible (va_wsS RX12 7 yX12_in wsX12_in) := goodIn_app (goodIn_of _ (by decide +kernel)) ggX12_possible_X12_in
set_option maxRecDepth 20000 in
theorem ggX12_possible_X12_isYear : GoodIn wsX12_possible wsX12_isYear := goodIn_r _ [13, 14, 15, 8, 9, 5, 10] (by decide +kernel) (by decide +kernel)
set_option maxRecDepth 20000 in
theorem gX12_possible_X12_isYear : GoodIn wsX12_possible (va_wsS RX12 232 yX12_isYear wsX12_isYear) := goodIn_app (goodIn_of _ (by decide +kernel)) ggX12_possible_X12_isYear
set_option maxRecDepth 20000 in
theorem ggX12_possible_X12_possibly : GoodIn wsX12_possible wsX12_possibly := goodIn_r _ [19, 20, 21, 22, 23, 24, 25, 26, 5, 27, 28, 29, 30, 31, 32, 33, 34, 35, 36, 37, 38, 39, 40, 41, 42, 43, 44, 45, 46, 47, 48, 49, 50, 51, 52, 53, 54, 55, 56, 57, 58, 59, 60, 61, 62, 63, 64, 65, 66, 67, 68, 69, 70, 71, 72, 73, 74, 75, 76, 77, 78, 79, 80, 81, 82, 83, 84, 85, 86] (by decide +kernel) (by decide +kernel)
set_option maxRecDepth 20000 in
theorem gX12_possible_X12_possibly : GoodIn wsX12_possible (wsV RX12 261 RX12 yX12_possibly wsX12_possibly) := goodIn_app (goodIn_of _ (by decide +kernel)) ggX12_possible_X12_possibly
theorem dX12_possible_0 : decode cX12_possible 0 = .ok (.iload_n 1, 1) := by decide +kernel
theorem dX12_possible_1 : decode cX12_possible 1 = .ok (.invokestatic 239, 3) := by decide +kernel
theorem dX12_possible_4 : decode cX12_possible 4 = .ok (.ifCond .eq 32, 3) := by decide +kernel
theorem dX12_possible_7 : decode cX12_possible 7 = .ok (.iload_n 2, 1) := by decide +kernel
theorem dX12_possible_8 : decode cX12_possible 8 = .ok (.i2l, 1) := by decide +kernel
theorem dX12_possible_9 : decode cX12_possible 9 = .ok (.lconst 1, 1) := by decide +kernel
theorem dX12_possible_10 : decode cX12_possible 10 = .ok (.ldc2_w 242, 3) := by decide +kernel
theorem dX12_possible_13 : decode cX12_possible 13 = .ok (.invokestatic 7, 3) := by decide +kernel
theorem dX12_possible_16 : decode cX12_possible 16 = .ok (.ifCond .eq 20, 3) := by decide +kernel
theorem dX12_possible_19 : decode cX12_possible 19 = .ok (.iload_n 3, 1) := by decide +kernel
theorem dX12_possible_20 : decode cX12_possible 20 = .ok (.invokestatic 232, 3) := by decide +kernel
theorem dX12_possible_23 : decode cX12_possible 23 = .ok (.ifCond .eq 13, 3) := by decide +kernel
theorem dX12_possible_26 : decode cX12_possible 26 = .ok (.aload_n 0, 1) := by decide +kernel
theorem dX12_possible_27 : decode cX12_possible 27 = .ok (.iload_n 1, 1) := by decide +kernel
theorem dX12_possible_28 : decode cX12_possible 28 = .ok (.iload_n 2, 1) := by decide +kernel
theorem dX12_possible_29 : decode cX12_possible 29 = .ok (.iload_n 3, 1) := by decide +kernel
theorem dX12_possible_30 : decode cX12_possible 30 = .ok (.invokevirtual 261, 3) := by decide +kernel
theorem dX12_possible_33 : decode cX12_possible 33 = .ok (.goto 6, 3) := by decide +kernel
theorem dX12_possible_36 : decode cX12_possible 36 = .ok (.ldc2_w 268, 3) := by decide +kernel
theorem dX12_possible_39 : decode cX12_possible 39 = .ok (.lreturn, 1) := by decide +kernel
set_option maxRecDepth 20000 in
theorem ggX12_surely_X12_isStreet : GoodIn wsX12_surely wsX12_isStreet := goodIn_r _ [5, 6, 7, 8, 4, 9] (by decide +kernel) (by decide +kernel)
set_option maxRecDepth 20000 in
theorem gX12_surely_X12_isStreet : GoodIn wsX12_surely (va_wsS RX12 239 yX12_isStreet wsX12_isStreet) := goodIn_app (goodIn_of _ (by decide +kernel)) ggX12_surely_X12_isStreet
set_option maxRecDepth 20000 in
theorem ggX12_surely_X12_in : GoodIn wsX12_surely wsX12_in := goodIn_r _ [9] (by decide +kernel) (by decide +kernel)
set_option maxRecDepth 20000 in
theorem gX12_surely_X12_in : GoodIn wsX12_surely (va_wsS RX12 7 yX12_in wsX12_in) := goodIn_app (goodIn_of _ (by decide +kernel)) ggX12_surely_X12_in
set_option maxRecDepth 20000 in
theorem ggX12_surely_X12_isYear : GoodIn wsX12_surely wsX12_isYear := goodIn_r _ [12, 13, 14, 7, 8, 4, 9] (by decide +kernel) (by decide +kernel)
set_option maxRecDepth 20000 in
theorem gX12_surely_X12_isYear : GoodIn wsX12_surely (va_wsS RX12 232 yX12_isYear wsX12_isYear) := goodIn_app (goodIn_of _ (by decide +kernel)) ggX12_surely_X12_isYear
set_option maxRecDepth 20000 in
theorem ggX12_surely_X12_surelyIs : GoodIn wsX12_surely wsX12_surelyIs := goodIn_r _ [18, 19, 20, 21, 22, 23, 24, 4, 25, 26, 27, 28, 29, 30, 31, 32, 33, 34, 35, 36, 37, 38, 39, 40, 41, 42, 43, 44, 45, 46, 47, 48, 49, 50, 51, 52, 53, 54, 55, 56, 57, 58, 59, 60, 61, 62, 63, 64, 65, 66, 67, 68, 69, 70, 71, 72, 73, 74, 75, 76, 77, 78, 79, 80, 81, 82, 83, 84, 85, 86, 87, 88, 89, 90, 91, 92, 93] (by decide +kernel) (by decide +kernel)
set_option maxRecDepth 20000 in
theorem gX12_surely_X12_surelyIs : GoodIn wsX12_surely (wsV RX12 270 RX12 yX12_surelyIs wsX12_surelyIs) := goodIn_app (goodIn_of _ (by decide +kernel)) ggX12_surely_X12_surelyIs
theorem dX12_surely_0 : decode cX12_surely 0 = .ok (.iload_n 1, 1) := by decide +kernel
theorem dX12_surely_1 : decode cX12_surely 1 = .ok (.invokestatic 239, 3) := by decide +kernel
theorem dX12_surely_4 : decode cX12_surely 4 = .ok (.ifCond .eq 32, 3) := by decide +kernel
theorem dX12_surely_7 : decode cX12_surely 7 = .ok (.iload_n 2, 1) := by decide +kernel
theorem dX12_surely_8 : decode cX12_surely 8 = .ok (.i2l, 1) := by decide +kernel
theorem dX12_surely_9 : decode cX12_surely 9 = .ok (.lconst 1, 1) := by decide +kernel
theorem dX12_surely_10 : decode cX12_surely 10 = .ok (.ldc2_w 242, 3) := by decide +kernel
theorem dX12_surely_13 : decode cX12_surely 13 = .ok (.invokestatic 7, 3) := by decide +kernel
theorem dX12_surely_16 : decode cX12_surely 16 = .ok (.ifCond .eq 20, 3) := by decide +kernel
theorem dX12_surely_19 : decode cX12_surely 19 = .ok (.iload_n 3, 1) := by decide +kernel
theorem dX12_surely_20 : decode cX12_surely 20 = .ok (.invokestatic 232, 3) := by decide +kernel
theorem dX12_surely_23 : decode cX12_surely 23 = .ok (.ifCond .eq 13, 3) := by decide +kernel
theorem dX12_surely_26 : decode cX12_surely 26 = .ok (.aload_n 0, 1) := by decide +kernel
theorem dX12_surely_27 : decode cX12_surely 27 = .ok (.iload_n 1, 1) := by decide +kernel
theorem dX12_surely_28 : decode cX12_surely 28 = .ok (.iload_n 2, 1) := by decide +kernel
theorem dX12_surely_29 : decode cX12_surely 29 = .ok (.iload_n 3, 1) := by decide +kernel
theorem dX12_surely_30 : decode cX12_surely 30 = .ok (.invokevirtual 270, 3) := by decide +kernel
theorem dX12_surely_33 : decode cX12_surely 33 = .ok (.goto 5, 3) := by decide +kernel
theorem dX12_surely_36 : decode cX12_surely 36 = .ok (.bipush (-2), 2) := by decide +kernel
theorem dX12_surely_38 : decode cX12_surely 38 = .ok (.ireturn, 1) := by decide +kernel
set_option maxRecDepth 20000 in
theorem ggX12_person_X12_isYear : GoodIn wsX12_person wsX12_isYear := goodIn_r _ [11, 12, 1, 13, 14, 10, 15] (by decide +kernel) (by decide +kernel)
set_option maxRecDepth 20000 in
theorem gX12_person_X12_isYear : GoodIn wsX12_person (va_wsS RX12 232 yX12_isYear wsX12_isYear) := goodIn_app (goodIn_of _ (by decide +kernel)) ggX12_person_X12_isYear
set_option maxRecDepth 20000 in
theorem ggX12_person_X12_in : GoodIn wsX12_person wsX12_in := goodIn_r _ [15] (by decide +kernel) (by decide +kernel)
set_option maxRecDepth 20000 in
theorem gX12_person_X12_in : GoodIn wsX12_person (va_wsS RX12 7 yX12_in wsX12_in) := goodIn_app (goodIn_of _ (by decide +kernel)) ggX12_person_X12_in
theorem dX12_person_0 : decode cX12_person 0 = .ok (.iload_n 1, 1) := by decide +kernel
theorem dX12_person_1 : decode cX12_person 1 = .ok (.invokestatic 232, 3) := by decide +kernel
theorem dX12_person_4 : decode cX12_person 4 = .ok (.ifCond .eq 33, 3) := by decide +kernel
theorem dX12_person_7 : decode cX12_person 7 = .ok (.iload_n 2, 1) := by decide +kernel
theorem dX12_person_8 : decode cX12_person 8 = .ok (.iconst (-1), 1) := by decide +kernel
theorem dX12_person_9 : decode cX12_person 9 = .ok (.if_icmp .eq 16, 3) := by decide +kernel
theorem dX12_person_12 : decode cX12_person 12 = .ok (.iload_n 2, 1) := by decide +kernel
theorem dX12_person_13 : decode cX12_person 13 = .ok (.i2l, 1) := by decide +kernel
theorem dX12_person_14 : decode cX12_person 14 = .ok (.iload_n 1, 1) := by decide +kernel
theorem dX12_person_15 : decode cX12_person 15 = .ok (.i2l, 1) := by decide +kernel
theorem dX12_person_16 : decode cX12_person 16 = .ok (.ldc2_w 5, 3) := by decide +kernel
theorem dX12_person_19 : decode cX12_person 19 = .ok (.invokestatic 7, 3) := by decide +kernel
theorem dX12_person_22 : decode cX12_person 22 = .ok (.ifCond .eq 15, 3) := by decide +kernel
theorem dX12_person_25 : decode cX12_person 25 = .ok (.iload_n 3, 1) := by decide +kernel
theorem dX12_person_26 : decode cX12_person 26 = .ok (.i2l, 1) := by decide +kernel
theorem dX12_person_27 : decode cX12_person 27 = .ok (.lconst 0, 1) := by decide +kernel
theorem dX12_person_28 : decode cX12_person 28 = .ok (.ldc2_w 224, 3) := by decide +kernel
theorem dX12_person_31 : decode cX12_person 31 = .ok (.invokestatic 7, 3) := by decide +kernel
theorem dX12_person_34 : decode cX12_person 34 = .ok (.ifCond .ne 6, 3) := by decide +kernel
theorem dX12_person_37 : decode cX12_person 37 = .ok (.bipush (-2), 2) := by decide +kernel
theorem dX12_person_39 : decode cX12_person 39 = .ok (.ireturn, 1) := by decide +kernel
theorem dX12_person_40 : decode cX12_person 40 = .ok (.aload_n 0, 1) := by decide +kernel
theorem dX12_person_41 : decode cX12_person 41 = .ok (.getfield 274, 3) := by decide +kernel
theorem dX12_person_44 : decode cX12_person 44 = .ok (.bipush 30, 2) := by decide +kernel
theorem dX12_person_46 : decode cX12_person 46 = .ok (.if_icmp .ne 6, 3) := by decide +kernel
theorem dX12_person_49 : decode cX12_person 49 = .ok (.bipush (-3), 2) := by decide +kernel
theorem dX12_person_51 : decode cX12_person 51 = .ok (.ireturn, 1) := by decide +kernel
theorem dX12_person_52 : decode cX12_person 52 = .ok (.aload_n 0, 1) := by decide +kernel
theorem dX12_person_53 : decode cX12_person 53 = .ok (.getfield 144, 3) := by decide +kernel
theorem dX12_person_56 : decode cX12_person 56 = .ok (.aload_n 0, 1) := by decide +kernel
theorem dX12_person_57 : decode cX12_person 57 = .ok (.getfield 274, 3) := by decide +kernel
theorem dX12_person_60 : decode cX12_person 60 = .ok (.iload_n 1, 1) := by decide +kernel
theorem dX12_person_61 : decode cX12_person 61 = .ok (.iastore, 1) := by decide +kernel
theorem dX12_person_62 : decode cX12_person 62 = .ok (.aload_n 0, 1) := by decide +kernel
theorem dX12_person_63 : decode cX12_person 63 = .ok (.getfield 147, 3) := by decide +kernel
theorem dX12_person_66 : decode cX12_person 66 = .ok (.aload_n 0, 1) := by decide +kernel
theorem dX12_person_67 : decode cX12_person 67 = .ok (.getfield 274, 3) := by decide +kernel
theorem dX12_person_70 : decode cX12_person 70 = .ok (.iload_n 2, 1) := by decide +kernel
theorem dX12_person_71 : decode cX12_person 71 = .ok (.iastore, 1) := by decide +kernel
theorem dX12_person_72 : decode cX12_person 72 = .ok (.aload_n 0, 1) := by decide +kernel
theorem dX12_person_73 : decode cX12_person 73 = .ok (.getfield 150, 3) := by decide +kernel
theorem dX12_person_76 : decode cX12_person 76 = .ok (.aload_n 0, 1) := by decide +kernel
theorem dX12_person_77 : decode cX12_person 77 = .ok (.getfield 274, 3) := by decide +kernel
theorem dX12_person_80 : decode cX12_person 80 = .ok (.iload_n 3, 1) := by decide +kernel
theorem dX12_person_81 : decode cX12_person 81 = .ok (.iastore, 1) := by decide +kernel
theorem dX12_person_82 : decode cX12_person 82 = .ok (.aload_n 0, 1) := by decide +kernel
theorem dX12_person_83 : decode cX12_person 83 = .ok (.getfield 152, 3) := by decide +kernel
theorem dX12_person_86 : decode cX12_person 86 = .ok (.aload_n 0, 1) := by decide +kernel
theorem dX12_person_87 : decode cX12_person 87 = .ok (.getfield 274, 3) := by decide +kernel
theorem dX12_person_90 : decode cX12_person 90 = .ok (.aload_n 0, 1) := by decide +kernel
theorem dX12_person_91 : decode cX12_person 91 = .ok (.getfield 274, 3) := by decide +kernel
theorem dX12_person_94 : decode cX12_person 94 = .ok (.iastore, 1) := by decide +kernel
theorem dX12_person_95 : decode cX12_person 95 = .ok (.aload_n 0, 1) := by decide +kernel
theorem dX12_person_96 : decode cX12_person 96 = .ok (.dup, 1) := by decide +kernel
theorem dX12_person_97 : decode cX12_person 97 = .ok (.getfield 274, 3) := by decide +kernel
theorem dX12_person_100 : decode cX12_person 100 = .ok (.iconst 1, 1) := by decide +kernel
theorem dX12_person_101 : decode cX12_person 101 = .ok (.iadd, 1) := by decide +kernel
theorem dX12_person_102 : decode cX12_person 102 = .ok (.putfield 274, 3) := by decide +kernel
theorem dX12_person_105 : decode cX12_person 105 = .ok (.aload_n 0, 1) := by decide +kernel
theorem dX12_person_106 : decode cX12_person 106 = .ok (.getfield 274, 3) := by decide +kernel
theorem dX12_person_109 : decode cX12_person 109 = .ok (.iconst 1, 1) := by decide +kernel
theorem dX12_person_110 : decode cX12_person 110 = .ok (.isub, 1) := by decide +kernel
theorem dX12_person_111 : decode cX12_person 111 = .ok (.ireturn, 1) := by decide +kernel
set_option maxRecDepth 20000 in
theorem ggX12_isPerson_X12_in : GoodIn wsX12_isPerson wsX12_in := goodIn_r _ [5] (by decide +kernel) (by decide +kernel)
set_option maxRecDepth 20000 in
theorem gX12_isPerson_X12_in : GoodIn wsX12_isPerson (va_wsS RX12 7 yX12_in wsX12_in) := goodIn_app (goodIn_of _ (by decide +kernel)) ggX12_isPerson_X12_in
theorem dX12_isPerson_0 : decode cX12_isPerson 0 = .ok (.iload_n 1, 1) := by decide +kernel
theorem dX12_isPerson_1 : decode cX12_isPerson 1 = .ok (.i2l, 1) := by decide +kernel
theorem dX12_isPerson_2 : decode cX12_isPerson 2 = .ok (.lconst 0, 1) := by decide +kernel
theorem dX12_isPerson_3 : decode cX12_isPerson 3 = .ok (.aload_n 0, 1) := by decide +kernel
theorem dX12_isPerson_4 : decode cX12_isPerson 4 = .ok (.getfield 274, 3) := by decide +kernel
theorem dX12_isPerson_7 : decode cX12_isPerson 7 = .ok (.i2l, 1) := by decide +kernel
theorem dX12_isPerson_8 : decode cX12_isPerson 8 = .ok (.lconst 1, 1) := by decide +kernel
theorem dX12_isPerson_9 : decode cX12_isPerson 9 = .ok (.lsub, 1) := by decide +kernel
theorem dX12_isPerson_10 : decode cX12_isPerson 10 = .ok (.invokestatic 7, 3) := by decide +kernel
theorem dX12_isPerson_13 : decode cX12_isPerson 13 = .ok (.ireturn, 1) := by decide +kernel
set_option maxRecDepth 20000 in
theorem ggX12_join_X12_isPerson : GoodIn wsX12_join wsX12_isPerson := goodIn_r _ [7, 2, 8, 9, 6, 10, 11, 12, 13, 14, 15, 16, 17, 18, 19, 20, 21, 22, 23, 24, 25, 26, 27, 28, 29, 30, 31, 32, 33, 34, 35, 36, 37, 38, 39, 40, 41, 42, 43, 44, 45, 46, 47, 48, 49, 50, 51, 52, 53, 54, 55, 56, 57, 58, 59, 60, 61, 62, 63] (by decide +kernel) (by decide +kernel)
set_option maxRecDepth 20000 in
theorem gX12_join_X12_isPerson : GoodIn wsX12_join (wsV RX12 277 RX12 yX12_isPerson wsX12_isPerson) := goodIn_app (goodIn_of _ (by decide +kernel)) ggX12_join_X12_isPerson
theorem dX12_join_0 : decode cX12_join 0 = .ok (.aload_n 0, 1) := by decide +kernel
theorem dX12_join_1 : decode cX12_join 1 = .ok (.iload_n 1, 1) := by decide +kernel
theorem dX12_join_2 : decode cX12_join 2 = .ok (.invokevirtual 277, 3) := by decide +kernel
theorem dX12_join_5 : decode cX12_join 5 = .ok (.ifCond .eq 16, 3) := by decide +kernel
theorem dX12_join_8 : decode cX12_join 8 = .ok (.aload_n 0, 1) := by decide +kernel
theorem dX12_join_9 : decode cX12_join 9 = .ok (.iload_n 2, 1) := by decide +kernel
theorem dX12_join_10 : decode cX12_join 10 = .ok (.invokevirtual 277, 3) := by decide +kernel
theorem dX12_join_13 : decode cX12_join 13 = .ok (.ifCond .eq 8, 3) := by decide +kernel
theorem dX12_join_16 : decode cX12_join 16 = .ok (.iload_n 1, 1) := by decide +kernel
theorem dX12_join_17 : decode cX12_join 17 = .ok (.iload_n 2, 1) := by decide +kernel
theorem dX12_join_18 : decode cX12_join 18 = .ok (.if_icmp .ne 6, 3) := by decide +kernel
theorem dX12_join_21 : decode cX12_join 21 = .ok (.bipush (-2), 2) := by decide +kernel
theorem dX12_join_23 : decode cX12_join 23 = .ok (.ireturn, 1) := by decide +kernel
theorem dX12_join_24 : decode cX12_join 24 = .ok (.aload_n 0, 1) := by decide +kernel
theorem dX12_join_25 : decode cX12_join 25 = .ok (.getfield 152, 3) := by decide +kernel
theorem dX12_join_28 : decode cX12_join 28 = .ok (.iload_n 1, 1) := by decide +kernel
theorem dX12_join_29 : decode cX12_join 29 = .ok (.iaload, 1) := by decide +kernel
theorem dX12_join_30 : decode cX12_join 30 = .ok (.aload_n 0, 1) := by decide +kernel
theorem dX12_join_31 : decode cX12_join 31 = .ok (.getfield 152, 3) := by decide +kernel
theorem dX12_join_34 : decode cX12_join 34 = .ok (.iload_n 2, 1) := by decide +kernel
theorem dX12_join_35 : decode cX12_join 35 = .ok (.iaload, 1) := by decide +kernel
theorem dX12_join_36 : decode cX12_join 36 = .ok (.if_icmp .ne 5, 3) := by decide +kernel
theorem dX12_join_39 : decode cX12_join 39 = .ok (.iconst 0, 1) := by decide +kernel
theorem dX12_join_40 : decode cX12_join 40 = .ok (.ireturn, 1) := by decide +kernel
theorem dX12_join_41 : decode cX12_join 41 = .ok (.aload_n 0, 1) := by decide +kernel
theorem dX12_join_42 : decode cX12_join 42 = .ok (.getfield 152, 3) := by decide +kernel
theorem dX12_join_45 : decode cX12_join 45 = .ok (.iload_n 2, 1) := by decide +kernel
theorem dX12_join_46 : decode cX12_join 46 = .ok (.iaload, 1) := by decide +kernel
theorem dX12_join_47 : decode cX12_join 47 = .ok (.istore_n 3, 1) := by decide +kernel
theorem dX12_join_48 : decode cX12_join 48 = .ok (.iconst 0, 1) := by decide +kernel
theorem dX12_join_49 : decode cX12_join 49 = .ok (.istore 4, 2) := by decide +kernel
theorem dX12_join_51 : decode cX12_join 51 = .ok (.iload 4, 2) := by decide +kernel
theorem dX12_join_53 : decode cX12_join 53 = .ok (.aload_n 0, 1) := by decide +kernel
theorem dX12_join_54 : decode cX12_join 54 = .ok (.getfield 274, 3) := by decide +kernel
theorem dX12_join_57 : decode cX12_join 57 = .ok (.if_icmp .ge 33, 3) := by decide +kernel
theorem dX12_join_60 : decode cX12_join 60 = .ok (.aload_n 0, 1) := by decide +kernel
theorem dX12_join_61 : decode cX12_join 61 = .ok (.getfield 152, 3) := by decide +kernel
theorem dX12_join_64 : decode cX12_join 64 = .ok (.iload 4, 2) := by decide +kernel
theorem dX12_join_66 : decode cX12_join 66 = .ok (.iaload, 1) := by decide +kernel
theorem dX12_join_67 : decode cX12_join 67 = .ok (.iload_n 3, 1) := by decide +kernel
theorem dX12_join_68 : decode cX12_join 68 = .ok (.if_icmp .ne 16, 3) := by decide +kernel
theorem dX12_join_71 : decode cX12_join 71 = .ok (.aload_n 0, 1) := by decide +kernel
theorem dX12_join_72 : decode cX12_join 72 = .ok (.getfield 152, 3) := by decide +kernel
theorem dX12_join_75 : decode cX12_join 75 = .ok (.iload 4, 2) := by decide +kernel
theorem dX12_join_77 : decode cX12_join 77 = .ok (.aload_n 0, 1) := by decide +kernel
theorem dX12_join_78 : decode cX12_join 78 = .ok (.getfield 152, 3) := by decide +kernel
theorem dX12_join_81 : decode cX12_join 81 = .ok (.iload_n 1, 1) := by decide +kernel
theorem dX12_join_82 : decode cX12_join 82 = .ok (.iaload, 1) := by decide +kernel
theorem dX12_join_83 : decode cX12_join 83 = .ok (.iastore, 1) := by decide +kernel
theorem dX12_join_84 : decode cX12_join 84 = .ok (.iinc 4 1, 3) := by decide +kernel
theorem dX12_join_87 : decode cX12_join 87 = .ok (.goto (-36), 3) := by decide +kernel
theorem dX12_join_90 : decode cX12_join 90 = .ok (.iconst 1, 1) := by decide +kernel
theorem dX12_join_91 : decode cX12_join 91 = .ok (.ireturn, 1) := by decide +kernel
set_option maxRecDepth 20000 in
theorem ggX12_paper_X12_isPerson : GoodIn wsX12_paper wsX12_isPerson := goodIn_r _ [15, 16, 17, 18, 14, 19, 32, 33, 34, 35, 36, 37, 38, 39, 40, 41, 42, 43, 44, 45, 46, 47, 48, 49, 50, 51, 52, 53, 54, 55, 56, 57, 58, 59, 60, 61, 62, 63, 64, 65, 66, 67, 68, 69, 70, 71, 72, 73, 74, 75, 76, 77, 78, 79, 80, 81, 82, 83, 84] (by decide +kernel) (by decide +kernel)
set_option maxRecDepth 20000 in
theorem gX12_paper_X12_isPerson : GoodIn wsX12_paper (wsV RX12 277 RX12 yX12_isPerson wsX12_isPerson) := goodIn_app (goodIn_of _ (by decide +kernel)) ggX12_paper_X12_isPerson
set_option maxRecDepth 20000 in
theorem ggX12_paper_X12_in : GoodIn wsX12_paper wsX12_in := goodIn_r _ [19] (by decide +kernel) (by decide +kernel)
set_option maxRecDepth 20000 in
theorem gX12_paper_X12_in : GoodIn wsX12_paper (va_wsS RX12 7 yX12_in wsX12_in) := goodIn_app (goodIn_of _ (by decide +kernel)) ggX12_paper_X12_in
set_option maxRecDepth 20000 in
theorem ggX12_paper_X12_isStreet : GoodIn wsX12_paper wsX12_isStreet := goodIn_r _ [22, 23, 17, 18, 14, 19] (by decide +kernel) (by decide +kernel)
set_option maxRecDepth 20000 in
theorem gX12_paper_X12_isStreet : GoodIn wsX12_paper (va_wsS RX12 239 yX12_isStreet wsX12_isStreet) := goodIn_app (goodIn_of _ (by decide +kernel)) ggX12_paper_X12_isStreet
set_option maxRecDepth 20000 in
theorem ggX12_paper_X12_areYears : GoodIn wsX12_paper wsX12_areYears := goodIn_r _ [26, 27, 28, 29, 14, 30, 31, 17, 18, 19] (by decide +kernel) (by decide +kernel)
set_option maxRecDepth 20000 in
theorem gX12_paper_X12_areYears : GoodIn wsX12_paper (va_wsS RX12 235 yX12_areYears wsX12_areYears) := goodIn_app (goodIn_of _ (by decide +kernel)) ggX12_paper_X12_areYears
theorem dX12_paper_0 : decode cX12_paper 0 = .ok (.aload_n 0, 1) := by decide +kernel
theorem dX12_paper_1 : decode cX12_paper 1 = .ok (.iload_n 1, 1) := by decide +kernel
theorem dX12_paper_2 : decode cX12_paper 2 = .ok (.invokevirtual 277, 3) := by decide +kernel
theorem dX12_paper_5 : decode cX12_paper 5 = .ok (.ifCond .eq 55, 3) := by decide +kernel
theorem dX12_paper_8 : decode cX12_paper 8 = .ok (.iload_n 2, 1) := by decide +kernel
theorem dX12_paper_9 : decode cX12_paper 9 = .ok (.i2l, 1) := by decide +kernel
theorem dX12_paper_10 : decode cX12_paper 10 = .ok (.lconst 0, 1) := by decide +kernel
theorem dX12_paper_11 : decode cX12_paper 11 = .ok (.ldc2_w 280, 3) := by decide +kernel
theorem dX12_paper_14 : decode cX12_paper 14 = .ok (.invokestatic 7, 3) := by decide +kernel
theorem dX12_paper_17 : decode cX12_paper 17 = .ok (.ifCond .eq 43, 3) := by decide +kernel
theorem dX12_paper_20 : decode cX12_paper 20 = .ok (.iload_n 3, 1) := by decide +kernel
theorem dX12_paper_21 : decode cX12_paper 21 = .ok (.invokestatic 239, 3) := by decide +kernel
theorem dX12_paper_24 : decode cX12_paper 24 = .ok (.ifCond .eq 36, 3) := by decide +kernel
theorem dX12_paper_27 : decode cX12_paper 27 = .ok (.iload 4, 2) := by decide +kernel
theorem dX12_paper_29 : decode cX12_paper 29 = .ok (.i2l, 1) := by decide +kernel
theorem dX12_paper_30 : decode cX12_paper 30 = .ok (.lconst 1, 1) := by decide +kernel
theorem dX12_paper_31 : decode cX12_paper 31 = .ok (.ldc2_w 242, 3) := by decide +kernel
theorem dX12_paper_34 : decode cX12_paper 34 = .ok (.invokestatic 7, 3) := by decide +kernel
theorem dX12_paper_37 : decode cX12_paper 37 = .ok (.ifCond .eq 23, 3) := by decide +kernel
theorem dX12_paper_40 : decode cX12_paper 40 = .ok (.iload 5, 2) := by decide +kernel
theorem dX12_paper_42 : decode cX12_paper 42 = .ok (.iload 6, 2) := by decide +kernel
theorem dX12_paper_44 : decode cX12_paper 44 = .ok (.invokestatic 235, 3) := by decide +kernel
theorem dX12_paper_47 : decode cX12_paper 47 = .ok (.ifCond .eq 13, 3) := by decide +kernel
theorem dX12_paper_50 : decode cX12_paper 50 = .ok (.iload 6, 2) := by decide +kernel
theorem dX12_paper_52 : decode cX12_paper 52 = .ok (.iload 5, 2) := by decide +kernel
theorem dX12_paper_54 : decode cX12_paper 54 = .ok (.isub, 1) := by decide +kernel
theorem dX12_paper_55 : decode cX12_paper 55 = .ok (.bipush 60, 2) := by decide +kernel
theorem dX12_paper_57 : decode cX12_paper 57 = .ok (.if_icmp .lt 6, 3) := by decide +kernel
theorem dX12_paper_60 : decode cX12_paper 60 = .ok (.bipush (-2), 2) := by decide +kernel
theorem dX12_paper_62 : decode cX12_paper 62 = .ok (.ireturn, 1) := by decide +kernel
theorem dX12_paper_63 : decode cX12_paper 63 = .ok (.aload_n 0, 1) := by decide +kernel
theorem dX12_paper_64 : decode cX12_paper 64 = .ok (.getfield 282, 3) := by decide +kernel
theorem dX12_paper_67 : decode cX12_paper 67 = .ok (.bipush 100, 2) := by decide +kernel
theorem dX12_paper_69 : decode cX12_paper 69 = .ok (.if_icmp .ne 6, 3) := by decide +kernel
theorem dX12_paper_72 : decode cX12_paper 72 = .ok (.bipush (-3), 2) := by decide +kernel
theorem dX12_paper_74 : decode cX12_paper 74 = .ok (.ireturn, 1) := by decide +kernel
theorem dX12_paper_75 : decode cX12_paper 75 = .ok (.aload_n 0, 1) := by decide +kernel
theorem dX12_paper_76 : decode cX12_paper 76 = .ok (.getfield 154, 3) := by decide +kernel
theorem dX12_paper_79 : decode cX12_paper 79 = .ok (.aload_n 0, 1) := by decide +kernel
theorem dX12_paper_80 : decode cX12_paper 80 = .ok (.getfield 282, 3) := by decide +kernel
theorem dX12_paper_83 : decode cX12_paper 83 = .ok (.iload_n 1, 1) := by decide +kernel
theorem dX12_paper_84 : decode cX12_paper 84 = .ok (.iastore, 1) := by decide +kernel
theorem dX12_paper_85 : decode cX12_paper 85 = .ok (.aload_n 0, 1) := by decide +kernel
theorem dX12_paper_86 : decode cX12_paper 86 = .ok (.getfield 157, 3) := by decide +kernel
theorem dX12_paper_89 : decode cX12_paper 89 = .ok (.aload_n 0, 1) := by decide +kernel
theorem dX12_paper_90 : decode cX12_paper 90 = .ok (.getfield 282, 3) := by decide +kernel
theorem dX12_paper_93 : decode cX12_paper 93 = .ok (.iload_n 2, 1) := by decide +kernel
theorem dX12_paper_94 : decode cX12_paper 94 = .ok (.iastore, 1) := by decide +kernel
theorem dX12_paper_95 : decode cX12_paper 95 = .ok (.aload_n 0, 1) := by decide +kernel
theorem dX12_paper_96 : decode cX12_paper 96 = .ok (.getfield 160, 3) := by decide +kernel
theorem dX12_paper_99 : decode cX12_paper 99 = .ok (.aload_n 0, 1) := by decide +kernel
theorem dX12_paper_100 : decode cX12_paper 100 = .ok (.getfield 282, 3) := by decide +kernel
theorem dX12_paper_103 : decode cX12_paper 103 = .ok (.iload_n 3, 1) := by decide +kernel
theorem dX12_paper_104 : decode cX12_paper 104 = .ok (.iastore, 1) := by decide +kernel
theorem dX12_paper_105 : decode cX12_paper 105 = .ok (.aload_n 0, 1) := by decide +kernel
theorem dX12_paper_106 : decode cX12_paper 106 = .ok (.getfield 163, 3) := by decide +kernel
theorem dX12_paper_109 : decode cX12_paper 109 = .ok (.aload_n 0, 1) := by decide +kernel
theorem dX12_paper_110 : decode cX12_paper 110 = .ok (.getfield 282, 3) := by decide +kernel
theorem dX12_paper_113 : decode cX12_paper 113 = .ok (.iload 4, 2) := by decide +kernel
theorem dX12_paper_115 : decode cX12_paper 115 = .ok (.iastore, 1) := by decide +kernel
theorem dX12_paper_116 : decode cX12_paper 116 = .ok (.aload_n 0, 1) := by decide +kernel
theorem dX12_paper_117 : decode cX12_paper 117 = .ok (.getfield 166, 3) := by decide +kernel
theorem dX12_paper_120 : decode cX12_paper 120 = .ok (.aload_n 0, 1) := by decide +kernel
theorem dX12_paper_121 : decode cX12_paper 121 = .ok (.getfield 282, 3) := by decide +kernel
theorem dX12_paper_124 : decode cX12_paper 124 = .ok (.iload 5, 2) := by decide +kernel
theorem dX12_paper_126 : decode cX12_paper 126 = .ok (.iastore, 1) := by decide +kernel
theorem dX12_paper_127 : decode cX12_paper 127 = .ok (.aload_n 0, 1) := by decide +kernel
theorem dX12_paper_128 : decode cX12_paper 128 = .ok (.getfield 169, 3) := by decide +kernel
theorem dX12_paper_131 : decode cX12_paper 131 = .ok (.aload_n 0, 1) := by decide +kernel
theorem dX12_paper_132 : decode cX12_paper 132 = .ok (.getfield 282, 3) := by decide +kernel
theorem dX12_paper_135 : decode cX12_paper 135 = .ok (.iload 6, 2) := by decide +kernel
theorem dX12_paper_137 : decode cX12_paper 137 = .ok (.iastore, 1) := by decide +kernel
theorem dX12_paper_138 : decode cX12_paper 138 = .ok (.aload_n 0, 1) := by decide +kernel
theorem dX12_paper_139 : decode cX12_paper 139 = .ok (.getfield 172, 3) := by decide +kernel
theorem dX12_paper_142 : decode cX12_paper 142 = .ok (.aload_n 0, 1) := by decide +kernel
theorem dX12_paper_143 : decode cX12_paper 143 = .ok (.getfield 282, 3) := by decide +kernel
theorem dX12_paper_146 : decode cX12_paper 146 = .ok (.iconst 0, 1) := by decide +kernel
theorem dX12_paper_147 : decode cX12_paper 147 = .ok (.bastore, 1) := by decide +kernel
theorem dX12_paper_148 : decode cX12_paper 148 = .ok (.aload_n 0, 1) := by decide +kernel
theorem dX12_paper_149 : decode cX12_paper 149 = .ok (.dup, 1) := by decide +kernel
theorem dX12_paper_150 : decode cX12_paper 150 = .ok (.getfield 282, 3) := by decide +kernel
theorem dX12_paper_153 : decode cX12_paper 153 = .ok (.iconst 1, 1) := by decide +kernel
theorem dX12_paper_154 : decode cX12_paper 154 = .ok (.iadd, 1) := by decide +kernel
theorem dX12_paper_155 : decode cX12_paper 155 = .ok (.putfield 282, 3) := by decide +kernel
theorem dX12_paper_158 : decode cX12_paper 158 = .ok (.aload_n 0, 1) := by decide +kernel
theorem dX12_paper_159 : decode cX12_paper 159 = .ok (.getfield 282, 3) := by decide +kernel
theorem dX12_paper_162 : decode cX12_paper 162 = .ok (.iconst 1, 1) := by decide +kernel
theorem dX12_paper_163 : decode cX12_paper 163 = .ok (.isub, 1) := by decide +kernel
theorem dX12_paper_164 : decode cX12_paper 164 = .ok (.ireturn, 1) := by decide +kernel
set_option maxRecDepth 20000 in
theorem ggX12_falsify_X12_in : GoodIn wsX12_falsify wsX12_in := goodIn_r _ [6] (by decide +kernel) (by decide +kernel)
set_option maxRecDepth 20000 in
theorem gX12_falsify_X12_in : GoodIn wsX12_falsify (va_wsS RX12 7 yX12_in wsX12_in) := goodIn_app (goodIn_of _ (by decide +kernel)) ggX12_falsify_X12_in
theorem dX12_falsify_0 : decode cX12_falsify 0 = .ok (.iload_n 1, 1) := by decide +kernel
theorem dX12_falsify_1 : decode cX12_falsify 1 = .ok (.i2l, 1) := by decide +kernel
theorem dX12_falsify_2 : decode cX12_falsify 2 = .ok (.lconst 0, 1) := by decide +kernel
theorem dX12_falsify_3 : decode cX12_falsify 3 = .ok (.aload_n 0, 1) := by decide +kernel
theorem dX12_falsify_4 : decode cX12_falsify 4 = .ok (.getfield 282, 3) := by decide +kernel
theorem dX12_falsify_7 : decode cX12_falsify 7 = .ok (.i2l, 1) := by decide +kernel
theorem dX12_falsify_8 : decode cX12_falsify 8 = .ok (.lconst 1, 1) := by decide +kernel
theorem dX12_falsify_9 : decode cX12_falsify 9 = .ok (.lsub, 1) := by decide +kernel
theorem dX12_falsify_10 : decode cX12_falsify 10 = .ok (.invokestatic 7, 3) := by decide +kernel
theorem dX12_falsify_13 : decode cX12_falsify 13 = .ok (.ifCond .ne 6, 3) := by decide +kernel
theorem dX12_falsify_16 : decode cX12_falsify 16 = .ok (.bipush (-2), 2) := by decide +kernel
theorem dX12_falsify_18 : decode cX12_falsify 18 = .ok (.ireturn, 1) := by decide +kernel
theorem dX12_falsify_19 : decode cX12_falsify 19 = .ok (.aload_n 0, 1) := by decide +kernel
theorem dX12_falsify_20 : decode cX12_falsify 20 = .ok (.getfield 172, 3) := by decide +kernel
theorem dX12_falsify_23 : decode cX12_falsify 23 = .ok (.iload_n 1, 1) := by decide +kernel
theorem dX12_falsify_24 : decode cX12_falsify 24 = .ok (.baload, 1) := by decide +kernel
theorem dX12_falsify_25 : decode cX12_falsify 25 = .ok (.istore_n 3, 1) := by decide +kernel
theorem dX12_falsify_26 : decode cX12_falsify 26 = .ok (.aload_n 0, 1) := by decide +kernel
theorem dX12_falsify_27 : decode cX12_falsify 27 = .ok (.getfield 172, 3) := by decide +kernel
theorem dX12_falsify_30 : decode cX12_falsify 30 = .ok (.iload_n 1, 1) := by decide +kernel
theorem dX12_falsify_31 : decode cX12_falsify 31 = .ok (.iload_n 2, 1) := by decide +kernel
theorem dX12_falsify_32 : decode cX12_falsify 32 = .ok (.bastore, 1) := by decide +kernel
theorem dX12_falsify_33 : decode cX12_falsify 33 = .ok (.iload_n 3, 1) := by decide +kernel
theorem dX12_falsify_34 : decode cX12_falsify 34 = .ok (.iload_n 2, 1) := by decide +kernel
theorem dX12_falsify_35 : decode cX12_falsify 35 = .ok (.if_icmp .ne 7, 3) := by decide +kernel
theorem dX12_falsify_38 : decode cX12_falsify 38 = .ok (.iconst 0, 1) := by decide +kernel
theorem dX12_falsify_39 : decode cX12_falsify 39 = .ok (.goto 4, 3) := by decide +kernel
theorem dX12_falsify_42 : decode cX12_falsify 42 = .ok (.iconst 1, 1) := by decide +kernel
theorem dX12_falsify_43 : decode cX12_falsify 43 = .ok (.ireturn, 1) := by decide +kernel
theorem dX12_isOf_0 : decode cX12_isOf 0 = .ok (.aload_n 0, 1) := by decide +kernel
theorem dX12_isOf_1 : decode cX12_isOf 1 = .ok (.getfield 172, 3) := by decide +kernel
theorem dX12_isOf_4 : decode cX12_isOf 4 = .ok (.iload_n 1, 1) := by decide +kernel
theorem dX12_isOf_5 : decode cX12_isOf 5 = .ok (.baload, 1) := by decide +kernel
theorem dX12_isOf_6 : decode cX12_isOf 6 = .ok (.ifCond .ne 27, 3) := by decide +kernel
theorem dX12_isOf_9 : decode cX12_isOf 9 = .ok (.aload_n 0, 1) := by decide +kernel
theorem dX12_isOf_10 : decode cX12_isOf 10 = .ok (.getfield 152, 3) := by decide +kernel
theorem dX12_isOf_13 : decode cX12_isOf 13 = .ok (.aload_n 0, 1) := by decide +kernel
theorem dX12_isOf_14 : decode cX12_isOf 14 = .ok (.getfield 154, 3) := by decide +kernel
theorem dX12_isOf_17 : decode cX12_isOf 17 = .ok (.iload_n 1, 1) := by decide +kernel
theorem dX12_isOf_18 : decode cX12_isOf 18 = .ok (.iaload, 1) := by decide +kernel
theorem dX12_isOf_19 : decode cX12_isOf 19 = .ok (.iaload, 1) := by decide +kernel
theorem dX12_isOf_20 : decode cX12_isOf 20 = .ok (.aload_n 0, 1) := by decide +kernel
theorem dX12_isOf_21 : decode cX12_isOf 21 = .ok (.getfield 152, 3) := by decide +kernel
theorem dX12_isOf_24 : decode cX12_isOf 24 = .ok (.iload_n 2, 1) := by decide +kernel
theorem dX12_isOf_25 : decode cX12_isOf 25 = .ok (.iaload, 1) := by decide +kernel
theorem dX12_isOf_26 : decode cX12_isOf 26 = .ok (.if_icmp .ne 7, 3) := by decide +kernel
theorem dX12_isOf_29 : decode cX12_isOf 29 = .ok (.iconst 1, 1) := by decide +kernel
theorem dX12_isOf_30 : decode cX12_isOf 30 = .ok (.goto 4, 3) := by decide +kernel
theorem dX12_isOf_33 : decode cX12_isOf 33 = .ok (.iconst 0, 1) := by decide +kernel
theorem dX12_isOf_34 : decode cX12_isOf 34 = .ok (.ireturn, 1) := by decide +kernel
set_option maxRecDepth 20000 in
theorem ggX12_live_X12_isOf : GoodIn wsX12_live wsX12_isOf := goodIn_r _ [18, 19, 20, 21, 48, 49, 50, 51, 52, 53, 54, 55, 56, 57, 58, 59, 60, 61, 62, 63, 64, 65, 66, 67, 68, 69, 70, 71, 72, 73, 74, 75, 76, 77, 78, 79, 80, 81, 82, 83, 84, 85, 86, 87, 88, 89, 90, 91, 92, 93, 94, 95, 96, 97, 98, 99, 100] (by decide +kernel) (by decide +kernel)
set_option maxRecDepth 20000 in
theorem gX12_live_X12_isOf : GoodIn wsX12_live (wsV RX12 288 RX12 yX12_isOf wsX12_isOf) := goodIn_app (goodIn_of _ (by decide +kernel)) ggX12_live_X12_isOf
set_option maxRecDepth 20000 in
theorem ggX12_live_X12_possibly : GoodIn wsX12_live wsX12_possibly := goodIn_r _ [25, 26, 27, 28, 29, 30, 31, 32, 17, 33, 34, 35, 36, 37, 38, 39, 48, 49, 50, 51, 52, 53, 54, 55, 56, 57, 58, 59, 60, 61, 62, 63, 64, 65, 66, 67, 68, 69, 70, 71, 72, 73, 74, 75, 76, 77, 78, 79, 80, 81, 82, 83, 84, 85, 86, 87, 88, 89, 90, 91, 92, 93, 94, 95, 96, 97, 98, 99, 100] (by decide +kernel) (by decide +kernel)
set_option maxRecDepth 20000 in
theorem gX12_live_X12_possibly : GoodIn wsX12_live (wsV RX12 261 RX12 yX12_possibly wsX12_possibly) := goodIn_app (goodIn_of _ (by decide +kernel)) ggX12_live_X12_possibly
set_option maxRecDepth 20000 in
theorem ggX12_live_X12_surelyIs : GoodIn wsX12_live wsX12_surelyIs := goodIn_r _ [43, 27, 28, 29, 22, 23, 24, 17, 25, 26, 30, 31, 32, 33, 34, 35, 36, 37, 38, 39, 44, 45, 46, 47, 48, 49, 50, 51, 52, 53, 54, 55, 56, 57, 58, 59, 60, 61, 62, 63, 64, 65, 66, 67, 68, 69, 70, 71, 72, 73, 74, 75, 76, 77, 78, 79, 80, 81, 82, 83, 84, 85, 86, 87, 88, 89, 90, 91, 92, 93, 94, 95, 96, 97, 98, 99, 100] (by decide +kernel) (by decide +kernel)
set_option maxRecDepth 20000 in
theorem gX12_live_X12_surelyIs : GoodIn wsX12_live (wsV RX12 270 RX12 yX12_surelyIs wsX12_surelyIs) := goodIn_app (goodIn_of _ (by decide +kernel)) ggX12_live_X12_surelyIs
theorem dX12_live_0 : decode cX12_live 0 = .ok (.sipush 1500, 3) := by decide +kernel
theorem dX12_live_3 : decode cX12_live 3 = .ok (.istore_n 3, 1) := by decide +kernel
theorem dX12_live_4 : decode cX12_live 4 = .ok (.iload_n 3, 1) := by decide +kernel
theorem dX12_live_5 : decode cX12_live 5 = .ok (.sipush 2100, 3) := by decide +kernel
theorem dX12_live_8 : decode cX12_live 8 = .ok (.if_icmp .gt 31, 3) := by decide +kernel
theorem dX12_live_11 : decode cX12_live 11 = .ok (.aload_n 0, 1) := by decide +kernel
theorem dX12_live_12 : decode cX12_live 12 = .ok (.getfield 175, 3) := by decide +kernel
theorem dX12_live_15 : decode cX12_live 15 = .ok (.iload_n 3, 1) := by decide +kernel
theorem dX12_live_16 : decode cX12_live 16 = .ok (.sipush 1500, 3) := by decide +kernel
theorem dX12_live_19 : decode cX12_live 19 = .ok (.isub, 1) := by decide +kernel
theorem dX12_live_20 : decode cX12_live 20 = .ok (.iconst 0, 1) := by decide +kernel
theorem dX12_live_21 : decode cX12_live 21 = .ok (.bastore, 1) := by decide +kernel
theorem dX12_live_22 : decode cX12_live 22 = .ok (.aload_n 0, 1) := by decide +kernel
theorem dX12_live_23 : decode cX12_live 23 = .ok (.getfield 178, 3) := by decide +kernel
theorem dX12_live_26 : decode cX12_live 26 = .ok (.iload_n 3, 1) := by decide +kernel
theorem dX12_live_27 : decode cX12_live 27 = .ok (.sipush 1500, 3) := by decide +kernel
theorem dX12_live_30 : decode cX12_live 30 = .ok (.isub, 1) := by decide +kernel
theorem dX12_live_31 : decode cX12_live 31 = .ok (.iconst 0, 1) := by decide +kernel
theorem dX12_live_32 : decode cX12_live 32 = .ok (.bastore, 1) := by decide +kernel
theorem dX12_live_33 : decode cX12_live 33 = .ok (.iinc 3 1, 3) := by decide +kernel
theorem dX12_live_36 : decode cX12_live 36 = .ok (.goto (-32), 3) := by decide +kernel
theorem dX12_live_39 : decode cX12_live 39 = .ok (.aload_n 0, 1) := by decide +kernel
theorem dX12_live_40 : decode cX12_live 40 = .ok (.iconst 0, 1) := by decide +kernel
theorem dX12_live_41 : decode cX12_live 41 = .ok (.putfield 285, 3) := by decide +kernel
theorem dX12_live_44 : decode cX12_live 44 = .ok (.iconst 0, 1) := by decide +kernel
theorem dX12_live_45 : decode cX12_live 45 = .ok (.istore_n 3, 1) := by decide +kernel
theorem dX12_live_46 : decode cX12_live 46 = .ok (.iload_n 3, 1) := by decide +kernel
theorem dX12_live_47 : decode cX12_live 47 = .ok (.aload_n 0, 1) := by decide +kernel
theorem dX12_live_48 : decode cX12_live 48 = .ok (.getfield 282, 3) := by decide +kernel
theorem dX12_live_51 : decode cX12_live 51 = .ok (.if_icmp .ge 142, 3) := by decide +kernel
theorem dX12_live_54 : decode cX12_live 54 = .ok (.aload_n 0, 1) := by decide +kernel
theorem dX12_live_55 : decode cX12_live 55 = .ok (.iload_n 3, 1) := by decide +kernel
theorem dX12_live_56 : decode cX12_live 56 = .ok (.iload_n 1, 1) := by decide +kernel
theorem dX12_live_57 : decode cX12_live 57 = .ok (.invokevirtual 288, 3) := by decide +kernel
theorem dX12_live_60 : decode cX12_live 60 = .ok (.ifCond .ne 6, 3) := by decide +kernel
theorem dX12_live_63 : decode cX12_live 63 = .ok (.goto 124, 3) := by decide +kernel
theorem dX12_live_66 : decode cX12_live 66 = .ok (.aload_n 0, 1) := by decide +kernel
theorem dX12_live_67 : decode cX12_live 67 = .ok (.getfield 166, 3) := by decide +kernel
theorem dX12_live_70 : decode cX12_live 70 = .ok (.iload_n 3, 1) := by decide +kernel
theorem dX12_live_71 : decode cX12_live 71 = .ok (.iaload, 1) := by decide +kernel
theorem dX12_live_72 : decode cX12_live 72 = .ok (.istore 4, 2) := by decide +kernel
theorem dX12_live_74 : decode cX12_live 74 = .ok (.iload 4, 2) := by decide +kernel
theorem dX12_live_76 : decode cX12_live 76 = .ok (.aload_n 0, 1) := by decide +kernel
theorem dX12_live_77 : decode cX12_live 77 = .ok (.getfield 169, 3) := by decide +kernel
theorem dX12_live_80 : decode cX12_live 80 = .ok (.iload_n 3, 1) := by decide +kernel
theorem dX12_live_81 : decode cX12_live 81 = .ok (.iaload, 1) := by decide +kernel
theorem dX12_live_82 : decode cX12_live 82 = .ok (.if_icmp .gt 105, 3) := by decide +kernel
theorem dX12_live_85 : decode cX12_live 85 = .ok (.aload_n 0, 1) := by decide +kernel
theorem dX12_live_86 : decode cX12_live 86 = .ok (.aload_n 0, 1) := by decide +kernel
theorem dX12_live_87 : decode cX12_live 87 = .ok (.getfield 160, 3) := by decide +kernel
theorem dX12_live_90 : decode cX12_live 90 = .ok (.iload_n 3, 1) := by decide +kernel
theorem dX12_live_91 : decode cX12_live 91 = .ok (.iaload, 1) := by decide +kernel
theorem dX12_live_92 : decode cX12_live 92 = .ok (.aload_n 0, 1) := by decide +kernel
theorem dX12_live_93 : decode cX12_live 93 = .ok (.getfield 163, 3) := by decide +kernel
theorem dX12_live_96 : decode cX12_live 96 = .ok (.iload_n 3, 1) := by decide +kernel
theorem dX12_live_97 : decode cX12_live 97 = .ok (.iaload, 1) := by decide +kernel
theorem dX12_live_98 : decode cX12_live 98 = .ok (.iload 4, 2) := by decide +kernel
theorem dX12_live_100 : decode cX12_live 100 = .ok (.invokevirtual 261, 3) := by decide +kernel
theorem dX12_live_103 : decode cX12_live 103 = .ok (.iload_n 2, 1) := by decide +kernel
theorem dX12_live_104 : decode cX12_live 104 = .ok (.lshr, 1) := by decide +kernel
theorem dX12_live_105 : decode cX12_live 105 = .ok (.lconst 1, 1) := by decide +kernel
theorem dX12_live_106 : decode cX12_live 106 = .ok (.land, 1) := by decide +kernel
theorem dX12_live_107 : decode cX12_live 107 = .ok (.lconst 0, 1) := by decide +kernel
theorem dX12_live_108 : decode cX12_live 108 = .ok (.lcmp, 1) := by decide +kernel
theorem dX12_live_109 : decode cX12_live 109 = .ok (.ifCond .ne 6, 3) := by decide +kernel
theorem dX12_live_112 : decode cX12_live 112 = .ok (.goto 69, 3) := by decide +kernel
theorem dX12_live_115 : decode cX12_live 115 = .ok (.aload_n 0, 1) := by decide +kernel
theorem dX12_live_116 : decode cX12_live 116 = .ok (.getfield 178, 3) := by decide +kernel
theorem dX12_live_119 : decode cX12_live 119 = .ok (.iload 4, 2) := by decide +kernel
theorem dX12_live_121 : decode cX12_live 121 = .ok (.sipush 1500, 3) := by decide +kernel
theorem dX12_live_124 : decode cX12_live 124 = .ok (.isub, 1) := by decide +kernel
theorem dX12_live_125 : decode cX12_live 125 = .ok (.iconst 1, 1) := by decide +kernel
theorem dX12_live_126 : decode cX12_live 126 = .ok (.bastore, 1) := by decide +kernel
theorem dX12_live_127 : decode cX12_live 127 = .ok (.aload_n 0, 1) := by decide +kernel
theorem dX12_live_128 : decode cX12_live 128 = .ok (.aload_n 0, 1) := by decide +kernel
theorem dX12_live_129 : decode cX12_live 129 = .ok (.getfield 160, 3) := by decide +kernel
theorem dX12_live_132 : decode cX12_live 132 = .ok (.iload_n 3, 1) := by decide +kernel
theorem dX12_live_133 : decode cX12_live 133 = .ok (.iaload, 1) := by decide +kernel
theorem dX12_live_134 : decode cX12_live 134 = .ok (.aload_n 0, 1) := by decide +kernel
theorem dX12_live_135 : decode cX12_live 135 = .ok (.getfield 163, 3) := by decide +kernel
theorem dX12_live_138 : decode cX12_live 138 = .ok (.iload_n 3, 1) := by decide +kernel
theorem dX12_live_139 : decode cX12_live 139 = .ok (.iaload, 1) := by decide +kernel
theorem dX12_live_140 : decode cX12_live 140 = .ok (.iload 4, 2) := by decide +kernel
theorem dX12_live_142 : decode cX12_live 142 = .ok (.invokevirtual 270, 3) := by decide +kernel
theorem dX12_live_145 : decode cX12_live 145 = .ok (.iload_n 2, 1) := by decide +kernel
theorem dX12_live_146 : decode cX12_live 146 = .ok (.if_icmp .eq 6, 3) := by decide +kernel
theorem dX12_live_149 : decode cX12_live 149 = .ok (.goto 32, 3) := by decide +kernel
theorem dX12_live_152 : decode cX12_live 152 = .ok (.aload_n 0, 1) := by decide +kernel
theorem dX12_live_153 : decode cX12_live 153 = .ok (.getfield 175, 3) := by decide +kernel
theorem dX12_live_156 : decode cX12_live 156 = .ok (.iload 4, 2) := by decide +kernel
theorem dX12_live_158 : decode cX12_live 158 = .ok (.sipush 1500, 3) := by decide +kernel
theorem dX12_live_161 : decode cX12_live 161 = .ok (.isub, 1) := by decide +kernel
theorem dX12_live_162 : decode cX12_live 162 = .ok (.iconst 1, 1) := by decide +kernel
theorem dX12_live_163 : decode cX12_live 163 = .ok (.bastore, 1) := by decide +kernel
theorem dX12_live_164 : decode cX12_live 164 = .ok (.aload_n 0, 1) := by decide +kernel
theorem dX12_live_165 : decode cX12_live 165 = .ok (.dup, 1) := by decide +kernel
theorem dX12_live_166 : decode cX12_live 166 = .ok (.getfield 285, 3) := by decide +kernel
theorem dX12_live_169 : decode cX12_live 169 = .ok (.iconst 1, 1) := by decide +kernel
theorem dX12_live_170 : decode cX12_live 170 = .ok (.aload_n 0, 1) := by decide +kernel
theorem dX12_live_171 : decode cX12_live 171 = .ok (.getfield 157, 3) := by decide +kernel
theorem dX12_live_174 : decode cX12_live 174 = .ok (.iload_n 3, 1) := by decide +kernel
theorem dX12_live_175 : decode cX12_live 175 = .ok (.iaload, 1) := by decide +kernel
theorem dX12_live_176 : decode cX12_live 176 = .ok (.ishl, 1) := by decide +kernel
theorem dX12_live_177 : decode cX12_live 177 = .ok (.ior, 1) := by decide +kernel
theorem dX12_live_178 : decode cX12_live 178 = .ok (.putfield 285, 3) := by decide +kernel
theorem dX12_live_181 : decode cX12_live 181 = .ok (.iinc 4 1, 3) := by decide +kernel
theorem dX12_live_184 : decode cX12_live 184 = .ok (.goto (-110), 3) := by decide +kernel
theorem dX12_live_187 : decode cX12_live 187 = .ok (.iinc 3 1, 3) := by decide +kernel
theorem dX12_live_190 : decode cX12_live 190 = .ok (.goto (-144), 3) := by decide +kernel
theorem dX12_live_193 : decode cX12_live 193 = .ok (.aload_n 0, 1) := by decide +kernel
theorem dX12_live_194 : decode cX12_live 194 = .ok (.iconst 0, 1) := by decide +kernel
theorem dX12_live_195 : decode cX12_live 195 = .ok (.putfield 291, 3) := by decide +kernel
theorem dX12_live_198 : decode cX12_live 198 = .ok (.aload_n 0, 1) := by decide +kernel
theorem dX12_live_199 : decode cX12_live 199 = .ok (.iconst 0, 1) := by decide +kernel
theorem dX12_live_200 : decode cX12_live 200 = .ok (.putfield 294, 3) := by decide +kernel
theorem dX12_live_203 : decode cX12_live 203 = .ok (.aload_n 0, 1) := by decide +kernel
theorem dX12_live_204 : decode cX12_live 204 = .ok (.iconst (-1), 1) := by decide +kernel
theorem dX12_live_205 : decode cX12_live 205 = .ok (.putfield 297, 3) := by decide +kernel
theorem dX12_live_208 : decode cX12_live 208 = .ok (.aload_n 0, 1) := by decide +kernel
theorem dX12_live_209 : decode cX12_live 209 = .ok (.iconst (-1), 1) := by decide +kernel
theorem dX12_live_210 : decode cX12_live 210 = .ok (.putfield 300, 3) := by decide +kernel
theorem dX12_live_213 : decode cX12_live 213 = .ok (.sipush 1500, 3) := by decide +kernel
theorem dX12_live_216 : decode cX12_live 216 = .ok (.istore_n 3, 1) := by decide +kernel
theorem dX12_live_217 : decode cX12_live 217 = .ok (.iload_n 3, 1) := by decide +kernel
theorem dX12_live_218 : decode cX12_live 218 = .ok (.sipush 2100, 3) := by decide +kernel
theorem dX12_live_221 : decode cX12_live 221 = .ok (.if_icmp .gt 80, 3) := by decide +kernel
theorem dX12_live_224 : decode cX12_live 224 = .ok (.aload_n 0, 1) := by decide +kernel
theorem dX12_live_225 : decode cX12_live 225 = .ok (.dup, 1) := by decide +kernel
theorem dX12_live_226 : decode cX12_live 226 = .ok (.getfield 294, 3) := by decide +kernel
theorem dX12_live_229 : decode cX12_live 229 = .ok (.aload_n 0, 1) := by decide +kernel
theorem dX12_live_230 : decode cX12_live 230 = .ok (.getfield 178, 3) := by decide +kernel
theorem dX12_live_233 : decode cX12_live 233 = .ok (.iload_n 3, 1) := by decide +kernel
theorem dX12_live_234 : decode cX12_live 234 = .ok (.sipush 1500, 3) := by decide +kernel
theorem dX12_live_237 : decode cX12_live 237 = .ok (.isub, 1) := by decide +kernel
theorem dX12_live_238 : decode cX12_live 238 = .ok (.baload, 1) := by decide +kernel
theorem dX12_live_239 : decode cX12_live 239 = .ok (.ifCond .eq 7, 3) := by decide +kernel
theorem dX12_live_242 : decode cX12_live 242 = .ok (.iconst 1, 1) := by decide +kernel
theorem dX12_live_243 : decode cX12_live 243 = .ok (.goto 4, 3) := by decide +kernel
theorem dX12_live_246 : decode cX12_live 246 = .ok (.iconst 0, 1) := by decide +kernel
theorem dX12_live_247 : decode cX12_live 247 = .ok (.iadd, 1) := by decide +kernel
theorem dX12_live_248 : decode cX12_live 248 = .ok (.putfield 294, 3) := by decide +kernel
theorem dX12_live_251 : decode cX12_live 251 = .ok (.aload_n 0, 1) := by decide +kernel
theorem dX12_live_252 : decode cX12_live 252 = .ok (.getfield 175, 3) := by decide +kernel
theorem dX12_live_255 : decode cX12_live 255 = .ok (.iload_n 3, 1) := by decide +kernel
theorem dX12_live_256 : decode cX12_live 256 = .ok (.sipush 1500, 3) := by decide +kernel
theorem dX12_live_259 : decode cX12_live 259 = .ok (.isub, 1) := by decide +kernel
theorem dX12_live_260 : decode cX12_live 260 = .ok (.baload, 1) := by decide +kernel
theorem dX12_live_261 : decode cX12_live 261 = .ok (.ifCond .ne 6, 3) := by decide +kernel
theorem dX12_live_264 : decode cX12_live 264 = .ok (.goto 31, 3) := by decide +kernel
theorem dX12_live_267 : decode cX12_live 267 = .ok (.aload_n 0, 1) := by decide +kernel
theorem dX12_live_268 : decode cX12_live 268 = .ok (.dup, 1) := by decide +kernel
theorem dX12_live_269 : decode cX12_live 269 = .ok (.getfield 291, 3) := by decide +kernel
theorem dX12_live_272 : decode cX12_live 272 = .ok (.iconst 1, 1) := by decide +kernel
theorem dX12_live_273 : decode cX12_live 273 = .ok (.iadd, 1) := by decide +kernel
theorem dX12_live_274 : decode cX12_live 274 = .ok (.putfield 291, 3) := by decide +kernel
theorem dX12_live_277 : decode cX12_live 277 = .ok (.aload_n 0, 1) := by decide +kernel
theorem dX12_live_278 : decode cX12_live 278 = .ok (.iload_n 3, 1) := by decide +kernel
theorem dX12_live_279 : decode cX12_live 279 = .ok (.putfield 300, 3) := by decide +kernel
theorem dX12_live_282 : decode cX12_live 282 = .ok (.aload_n 0, 1) := by decide +kernel
theorem dX12_live_283 : decode cX12_live 283 = .ok (.getfield 297, 3) := by decide +kernel
theorem dX12_live_286 : decode cX12_live 286 = .ok (.iconst (-1), 1) := by decide +kernel
theorem dX12_live_287 : decode cX12_live 287 = .ok (.if_icmp .ne 8, 3) := by decide +kernel
theorem dX12_live_290 : decode cX12_live 290 = .ok (.aload_n 0, 1) := by decide +kernel
theorem dX12_live_291 : decode cX12_live 291 = .ok (.iload_n 3, 1) := by decide +kernel
theorem dX12_live_292 : decode cX12_live 292 = .ok (.putfield 297, 3) := by decide +kernel
theorem dX12_live_295 : decode cX12_live 295 = .ok (.iinc 3 1, 3) := by decide +kernel
theorem dX12_live_298 : decode cX12_live 298 = .ok (.goto (-81), 3) := by decide +kernel
theorem dX12_live_301 : decode cX12_live 301 = .ok (.return_, 1) := by decide +kernel
theorem dX12_bits_0 : decode cX12_bits 0 = .ok (.iconst 0, 1) := by decide +kernel
theorem dX12_bits_1 : decode cX12_bits 1 = .ok (.istore_n 1, 1) := by decide +kernel
theorem dX12_bits_2 : decode cX12_bits 2 = .ok (.iload_n 0, 1) := by decide +kernel
theorem dX12_bits_3 : decode cX12_bits 3 = .ok (.istore_n 2, 1) := by decide +kernel
theorem dX12_bits_4 : decode cX12_bits 4 = .ok (.iload_n 2, 1) := by decide +kernel
theorem dX12_bits_5 : decode cX12_bits 5 = .ok (.ifCond .eq 15, 3) := by decide +kernel
theorem dX12_bits_8 : decode cX12_bits 8 = .ok (.iinc 1 1, 3) := by decide +kernel
theorem dX12_bits_11 : decode cX12_bits 11 = .ok (.iload_n 2, 1) := by decide +kernel
theorem dX12_bits_12 : decode cX12_bits 12 = .ok (.iload_n 2, 1) := by decide +kernel
