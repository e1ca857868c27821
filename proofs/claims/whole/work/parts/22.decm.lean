/-! The instructions of the reference -/
theorem zd80_0 : zD 80 0 (.aload_n 0) 1 1 = true := by decide +kernel
theorem zd80_1 : zDo 80 1 4 = true := by decide +kernel
theorem zd80_4 : zD 80 4 (.aload_n 0) 1 5 = true := by decide +kernel
theorem zd80_5 : zDc 80 5 7 (Int32.ofNat 64) = true := by decide +kernel
theorem zd80_7 : zD 80 7 (.newarray .int) 2 9 = true := by decide +kernel
theorem zd80_9 : zDp 80 9 12 7 1 (.array .int) = true := by decide +kernel
theorem zd80_12 : zD 80 12 (.aload_n 0) 1 13 = true := by decide +kernel
theorem zd80_13 : zDc 80 13 16 (Int32.ofNat 512) = true := by decide +kernel
theorem zd80_16 : zD 80 16 (.newarray .int) 2 18 = true := by decide +kernel
theorem zd80_18 : zDp 80 18 21 7 3 (.array .int) = true := by decide +kernel
theorem zd80_21 : zD 80 21 (.aload_n 0) 1 22 = true := by decide +kernel
theorem zd80_22 : zDc 80 22 24 (Int32.ofNat 64) = true := by decide +kernel
theorem zd80_24 : zD 80 24 (.newarray .int) 2 26 = true := by decide +kernel
theorem zd80_26 : zDp 80 26 29 7 4 (.array .int) = true := by decide +kernel
theorem zd80_29 : zD 80 29 (.aload_n 0) 1 30 = true := by decide +kernel
theorem zd80_30 : zDc 80 30 32 (Int32.ofNat 8) = true := by decide +kernel
theorem zd80_32 : zD 80 32 (.newarray .int) 2 34 = true := by decide +kernel
theorem zd80_34 : zDp 80 34 37 7 5 (.array .int) = true := by decide +kernel
theorem zd80_37 : zD 80 37 (.aload_n 0) 1 38 = true := by decide +kernel
theorem zd80_38 : zDc 80 38 40 (Int32.ofNat 8) = true := by decide +kernel
theorem zd80_40 : zD 80 40 (.newarray .int) 2 42 = true := by decide +kernel
theorem zd80_42 : zDp 80 42 45 7 6 (.array .int) = true := by decide +kernel
theorem zd80_45 : zD 80 45 (.aload_n 0) 1 46 = true := by decide +kernel
theorem zd80_46 : zDc 80 46 48 (Int32.ofNat 32) = true := by decide +kernel
theorem zd80_48 : zD 80 48 (.newarray .int) 2 50 = true := by decide +kernel
theorem zd80_50 : zDp 80 50 53 7 7 (.array .int) = true := by decide +kernel
theorem zd80_53 : zD 80 53 (.aload_n 0) 1 54 = true := by decide +kernel
theorem zd80_54 : zDc 80 54 56 (Int32.ofNat 11) = true := by decide +kernel
theorem zd80_56 : zD 80 56 (.newarray .int) 2 58 = true := by decide +kernel
theorem zd80_58 : zDp 80 58 61 7 9 (.array .int) = true := by decide +kernel
theorem zd80_61 : zD 80 61 (.aload_n 0) 1 62 = true := by decide +kernel
theorem zd80_62 : zDc 80 62 64 (Int32.ofNat 88) = true := by decide +kernel
theorem zd80_64 : zD 80 64 (.newarray .int) 2 66 = true := by decide +kernel
theorem zd80_66 : zDp 80 66 69 7 10 (.array .int) = true := by decide +kernel
theorem zd80_69 : zD 80 69 (.aload_n 0) 1 70 = true := by decide +kernel
theorem zd80_70 : zDc 80 70 72 (Int32.ofNat 88) = true := by decide +kernel
theorem zd80_72 : zD 80 72 (.newarray .int) 2 74 = true := by decide +kernel
theorem zd80_74 : zDp 80 74 77 7 11 (.array .int) = true := by decide +kernel
theorem zd80_77 : zD 80 77 (.aload_n 0) 1 78 = true := by decide +kernel
theorem zd80_78 : zDc 80 78 81 (Int32.ofNat 5632) = true := by decide +kernel
theorem zd80_81 : zD 80 81 (.newarray .int) 2 83 = true := by decide +kernel
theorem zd80_83 : zDp 80 83 86 7 12 (.array .int) = true := by decide +kernel
theorem zd80_86 : zD 80 86 (.aload_n 0) 1 87 = true := by decide +kernel
theorem zd80_87 : zDc 80 87 90 (Int32.ofNat 2560) = true := by decide +kernel
theorem zd80_90 : zD 80 90 (.newarray .int) 2 92 = true := by decide +kernel
theorem zd80_92 : zDp 80 92 95 7 13 (.array .int) = true := by decide +kernel
theorem zd80_95 : zD 80 95 (.aload_n 0) 1 96 = true := by decide +kernel
theorem zd80_96 : zDc 80 96 99 (Int32.ofNat 320) = true := by decide +kernel
theorem zd80_99 : zD 80 99 (.newarray .int) 2 101 = true := by decide +kernel
theorem zd80_101 : zDp 80 101 104 7 14 (.array .int) = true := by decide +kernel
theorem zd80_104 : zD 80 104 (.aload_n 0) 1 105 = true := by decide +kernel
theorem zd80_105 : zDc 80 105 108 (Int32.ofNat 256) = true := by decide +kernel
theorem zd80_108 : zD 80 108 (.newarray .int) 2 110 = true := by decide +kernel
theorem zd80_110 : zDp 80 110 113 7 16 (.array .int) = true := by decide +kernel
theorem zd80_113 : zD 80 113 (.aload_n 0) 1 114 = true := by decide +kernel
theorem zd80_114 : zDc 80 114 117 (Int32.ofNat 300) = true := by decide +kernel
theorem zd80_117 : zD 80 117 (.newarray .int) 2 119 = true := by decide +kernel
theorem zd80_119 : zDp 80 119 122 7 18 (.array .int) = true := by decide +kernel
theorem zd80_122 : zD 80 122 (.aload_n 0) 1 123 = true := by decide +kernel
theorem zd80_123 : zDc 80 123 126 (Int32.ofNat 160) = true := by decide +kernel
theorem zd80_126 : zD 80 126 (.newarray .int) 2 128 = true := by decide +kernel
theorem zd80_128 : zDp 80 128 131 7 19 (.array .int) = true := by decide +kernel
theorem zd80_131 : zD 80 131 (.aload_n 0) 1 132 = true := by decide +kernel
theorem zd80_132 : zDc 80 132 134 (Int32.ofNat 10) = true := by decide +kernel
theorem zd80_134 : zD 80 134 (.newarray .boolean) 2 136 = true := by decide +kernel
theorem zd80_136 : zDp 80 136 139 7 20 (.array .boolean) = true := by decide +kernel
theorem zd80_139 : zD 80 139 (.aload_n 0) 1 140 = true := by decide +kernel
theorem zd80_140 : zDc 80 140 142 (Int32.ofNat 60) = true := by decide +kernel
theorem zd80_142 : zD 80 142 (.newarray .int) 2 144 = true := by decide +kernel
theorem zd80_144 : zDp 80 144 147 7 23 (.array .int) = true := by decide +kernel
theorem zd80_147 : zD 80 147 (.aload_n 0) 1 148 = true := by decide +kernel
theorem zd80_148 : zDc 80 148 150 (Int32.ofNat 100) = true := by decide +kernel
theorem zd80_150 : zD 80 150 (.newarray .int) 2 152 = true := by decide +kernel
theorem zd80_152 : zDp 80 152 155 7 25 (.array .int) = true := by decide +kernel
theorem zd80_155 : zD 80 155 (.aload_n 0) 1 156 = true := by decide +kernel
theorem zd80_156 : zDc 80 156 158 (Int32.ofNat 100) = true := by decide +kernel
theorem zd80_158 : zD 80 158 (.newarray .int) 2 160 = true := by decide +kernel
theorem zd80_160 : zDp 80 160 163 7 26 (.array .int) = true := by decide +kernel
theorem zd80_163 : zD 80 163 (.aload_n 0) 1 164 = true := by decide +kernel
theorem zd80_164 : zDc 80 164 166 (Int32.ofNat 100) = true := by decide +kernel
theorem zd80_166 : zD 80 166 (.newarray .int) 2 168 = true := by decide +kernel
theorem zd80_168 : zDp 80 168 171 7 27 (.array .int) = true := by decide +kernel
theorem zd80_171 : zD 80 171 (.aload_n 0) 1 172 = true := by decide +kernel
theorem zd80_172 : zDc 80 172 174 (Int32.ofNat 100) = true := by decide +kernel
theorem zd80_174 : zD 80 174 (.newarray .int) 2 176 = true := by decide +kernel
theorem zd80_176 : zDp 80 176 179 7 28 (.array .int) = true := by decide +kernel
theorem zd80_179 : zD 80 179 (.aload_n 0) 1 180 = true := by decide +kernel
theorem zd80_180 : zDc 80 180 181 (Int32.ofNat 0) = true := by decide +kernel
theorem zd80_181 : zDC 80 181 184 (4794697085070296209) = true := by decide +kernel
theorem zd80_184 : zDC 80 184 187 (-5349999486918337627) = true := by decide +kernel
theorem zd80_187 : zDC 80 187 190 (4131703405765792241) = true := by decide +kernel
theorem zd80_190 : zDC 80 190 193 (-7908458776882290987) = true := by decide +kernel
theorem zd80_193 : zDk 80 193 196 81 0 = true := by decide +kernel
theorem zd80_196 : zD 80 196 (.aload_n 0) 1 197 = true := by decide +kernel
theorem zd80_197 : zDc 80 197 199 (Int32.ofNat 8) = true := by decide +kernel
theorem zd80_199 : zDC 80 199 202 (-2880145866557793535) = true := by decide +kernel
theorem zd80_202 : zDC 80 202 205 (2608012711741390275) = true := by decide +kernel
theorem zd80_205 : zDC 80 205 208 (8268148720858477054) = true := by decide +kernel
theorem zd80_208 : zDC 80 208 211 (-7215885185376849548) = true := by decide +kernel
theorem zd80_211 : zDk 80 211 214 81 0 = true := by decide +kernel
theorem zd80_214 : zD 80 214 (.aload_n 0) 1 215 = true := by decide +kernel
theorem zd80_215 : zDc 80 215 217 (Int32.ofNat 16) = true := by decide +kernel
theorem zd80_217 : zDC 80 217 220 (-1973867730000001146) = true := by decide +kernel
theorem zd80_220 : zDC 80 220 223 (1135362055407968716) = true := by decide +kernel
theorem zd80_223 : zDC 80 223 226 (3308224257782482090) = true := by decide +kernel
theorem zd80_226 : zDC 80 226 229 (6679025011744409818) = true := by decide +kernel
theorem zd80_229 : zDk 80 229 232 81 0 = true := by decide +kernel
theorem zd80_232 : zD 80 232 (.aload_n 0) 1 233 = true := by decide +kernel
theorem zd80_233 : zDc 80 233 235 (Int32.ofNat 24) = true := by decide +kernel
theorem zd80_235 : zDC 80 235 238 (-7476448915937442195) = true := by decide +kernel
theorem zd80_238 : zDC 80 238 241 (-5763719354946846777) = true := by decide +kernel
theorem zd80_241 : zDC 80 241 244 (-4116276917527146169) = true := by decide +kernel
theorem zd80_244 : zDC 80 244 247 (489312709404862823) = true := by decide +kernel
theorem zd80_247 : zDk 80 247 250 81 0 = true := by decide +kernel
theorem zd80_250 : zD 80 250 (.aload_n 0) 1 251 = true := by decide +kernel
theorem zd80_251 : zDc 80 251 253 (Int32.ofNat 32) = true := by decide +kernel
theorem zd80_253 : zDC 80 253 256 (2861767655337697592) = true := by decide +kernel
theorem zd80_256 : zDC 80 256 259 (5560940570391088403) = true := by decide +kernel
theorem zd80_259 : zDC 80 259 262 (7280758554198936251) = true := by decide +kernel
theorem zd80_262 : zDC 80 262 265 (-9096487095472345979) = true := by decide +kernel
theorem zd80_265 : zDk 80 265 268 81 0 = true := by decide +kernel
theorem zd80_268 : zD 80 268 (.aload_n 0) 1 269 = true := by decide +kernel
theorem zd80_269 : zDc 80 269 271 (Int32.ofNat 40) = true := by decide +kernel
theorem zd80_271 : zDC 80 271 274 (-6719396338005809589) = true := by decide +kernel
theorem zd80_274 : zDC 80 274 277 (-4446306890599870045) = true := by decide +kernel
theorem zd80_277 : zDC 80 277 280 (-3345356375510677980) = true := by decide +kernel
theorem zd80_280 : zDC 80 280 283 (-860691633158840208) = true := by decide +kernel
theorem zd80_283 : zDk 80 283 286 81 0 = true := by decide +kernel
theorem zd80_286 : zD 80 286 (.aload_n 0) 1 287 = true := by decide +kernel
theorem zd80_287 : zDc 80 287 289 (Int32.ofNat 48) = true := by decide +kernel
theorem zd80_289 : zDC 80 289 292 (1847814047869135880) = true := by decide +kernel
theorem zd80_292 : zDC 80 292 295 (2830643534987574453) = true := by decide +kernel
theorem zd80_295 : zDC 80 295 298 (4115178123771292234) = true := by decide +kernel
theorem zd80_298 : zDC 80 298 301 (6601373596217405427) = true := by decide +kernel
theorem zd80_301 : zDk 80 301 304 81 0 = true := by decide +kernel
theorem zd80_304 : zD 80 304 (.aload_n 0) 1 305 = true := by decide +kernel
theorem zd80_305 : zDc 80 305 307 (Int32.ofNat 56) = true := by decide +kernel
theorem zd80_307 : zDC 80 307 310 (8399075790807196527) = true := by decide +kernel
theorem zd80_310 : zDC 80 310 313 (-8878714635704401400) = true := by decide +kernel
theorem zd80_313 : zDC 80 313 316 (-8016688834709263125) = true := by decide +kernel
theorem zd80_316 : zDC 80 316 319 (-4685533652720715534) = true := by decide +kernel
theorem zd80_319 : zDk 80 319 322 81 0 = true := by decide +kernel
theorem zd80_322 : zD 80 322 .return_ 1 323 = true := by decide +kernel
theorem zd81_0 : zD 81 0 (.aload_n 0) 1 1 = true := by decide +kernel
theorem zd81_1 : zD 81 1 (.iload_n 1) 1 2 = true := by decide +kernel
theorem zd81_2 : zD 81 2 (.lload_n 2) 1 3 = true := by decide +kernel
theorem zd81_3 : zDk 81 3 6 82 0 = true := by decide +kernel
theorem zd81_6 : zD 81 6 (.aload_n 0) 1 7 = true := by decide +kernel
theorem zd81_7 : zD 81 7 (.iload_n 1) 1 8 = true := by decide +kernel
theorem zd81_8 : zDc 81 8 9 (Int32.ofNat 2) = true := by decide +kernel
theorem zd81_9 : zD 81 9 .iadd 1 10 = true := by decide +kernel
theorem zd81_10 : zD 81 10 (.lload 4) 2 12 = true := by decide +kernel
theorem zd81_12 : zDk 81 12 15 82 0 = true := by decide +kernel
theorem zd81_15 : zD 81 15 (.aload_n 0) 1 16 = true := by decide +kernel
theorem zd81_16 : zD 81 16 (.iload_n 1) 1 17 = true := by decide +kernel
theorem zd81_17 : zDc 81 17 18 (Int32.ofNat 4) = true := by decide +kernel
theorem zd81_18 : zD 81 18 .iadd 1 19 = true := by decide +kernel
theorem zd81_19 : zD 81 19 (.lload 6) 2 21 = true := by decide +kernel
theorem zd81_21 : zDk 81 21 24 82 0 = true := by decide +kernel
theorem zd81_24 : zD 81 24 (.aload_n 0) 1 25 = true := by decide +kernel
theorem zd81_25 : zD 81 25 (.iload_n 1) 1 26 = true := by decide +kernel
theorem zd81_26 : zDc 81 26 28 (Int32.ofNat 6) = true := by decide +kernel
theorem zd81_28 : zD 81 28 .iadd 1 29 = true := by decide +kernel
theorem zd81_29 : zD 81 29 (.lload 8) 2 31 = true := by decide +kernel
theorem zd81_31 : zDk 81 31 34 82 0 = true := by decide +kernel
theorem zd81_34 : zD 81 34 .return_ 1 35 = true := by decide +kernel
theorem zd82_0 : zD 82 0 (.aload_n 0) 1 1 = true := by decide +kernel
theorem zd82_1 : zDg 82 1 4 7 1 (.array .int) = true := by decide +kernel
theorem zd82_4 : zD 82 4 (.iload_n 1) 1 5 = true := by decide +kernel
theorem zd82_5 : zD 82 5 (.lload_n 2) 1 6 = true := by decide +kernel
theorem zd82_6 : zDc 82 6 8 (Int32.ofNat 32) = true := by decide +kernel
theorem zd82_8 : zD 82 8 .lshr 1 9 = true := by decide +kernel
theorem zd82_9 : zD 82 9 .l2i 1 10 = true := by decide +kernel
theorem zd82_10 : zD 82 10 .iastore 1 11 = true := by decide +kernel
theorem zd82_11 : zD 82 11 (.aload_n 0) 1 12 = true := by decide +kernel
theorem zd82_12 : zDg 82 12 15 7 1 (.array .int) = true := by decide +kernel
theorem zd82_15 : zD 82 15 (.iload_n 1) 1 16 = true := by decide +kernel
theorem zd82_16 : zDc 82 16 17 (Int32.ofNat 1) = true := by decide +kernel
theorem zd82_17 : zD 82 17 .iadd 1 18 = true := by decide +kernel
theorem zd82_18 : zD 82 18 (.lload_n 2) 1 19 = true := by decide +kernel
theorem zd82_19 : zD 82 19 .l2i 1 20 = true := by decide +kernel
theorem zd82_20 : zD 82 20 .iastore 1 21 = true := by decide +kernel
theorem zd82_21 : zD 82 21 .return_ 1 22 = true := by decide +kernel
theorem zd83_0 : zD 83 0 (.aload_n 0) 1 1 = true := by decide +kernel
theorem zd83_1 : zDg 83 1 4 7 0 (.int) = true := by decide +kernel
theorem zd83_4 : zD 83 4 .ireturn 1 5 = true := by decide +kernel
theorem zd84_0 : zD 84 0 (.aload_n 0) 1 1 = true := by decide +kernel
theorem zd84_1 : zD 84 1 (.iload_n 1) 1 2 = true := by decide +kernel
theorem zd84_2 : zDf 84 2 .lt 15 5 = true := by decide +kernel
theorem zd84_5 : zD 84 5 (.iload_n 1) 1 6 = true := by decide +kernel
theorem zd84_6 : zDc 84 6 8 (Int32.ofNat 65536) = true := by decide +kernel
theorem zd84_8 : zDm 84 8 .ge 15 11 = true := by decide +kernel
theorem zd84_11 : zDc 84 11 12 (Int32.ofNat 0) = true := by decide +kernel
theorem zd84_12 : zDj 84 12 16 = true := by decide +kernel
theorem zd84_15 : zDc 84 15 16 (Int32.ofNat 1) = true := by decide +kernel
theorem zd84_16 : zDp 84 16 19 7 0 (.int) = true := by decide +kernel
theorem zd84_19 : zD 84 19 (.aload_n 0) 1 20 = true := by decide +kernel
theorem zd84_20 : zDg 84 20 23 7 0 (.int) = true := by decide +kernel
theorem zd84_23 : zDf 84 23 .eq 28 26 = true := by decide +kernel
theorem zd84_26 : zDc 84 26 27 (Int32.ofNat 0) = true := by decide +kernel
theorem zd84_27 : zD 84 27 .ireturn 1 28 = true := by decide +kernel
theorem zd84_28 : zD 84 28 (.aload_n 0) 1 29 = true := by decide +kernel
theorem zd84_29 : zDg 84 29 32 7 9 (.array .int) = true := by decide +kernel
theorem zd84_32 : zDc 84 32 34 (Int32.ofNat 10) = true := by decide +kernel
theorem zd84_34 : zD 84 34 .iaload 1 35 = true := by decide +kernel
theorem zd84_35 : zDc 84 35 37 (Int32.ofNat 8) = true := by decide +kernel
theorem zd84_37 : zDm 84 37 .eq 51 40 = true := by decide +kernel
theorem zd84_40 : zD 84 40 (.aload_n 0) 1 41 = true := by decide +kernel
theorem zd84_41 : zDc 84 41 43 (Int32.ofNat 10) = true := by decide +kernel
theorem zd84_43 : zD 84 43 (.iload_n 1) 1 44 = true := by decide +kernel
theorem zd84_44 : zDk 84 44 47 85 0 = true := by decide +kernel
theorem zd84_47 : zDc 84 47 48 (-1) = true := by decide +kernel
theorem zd84_48 : zDm 84 48 .eq 53 51 = true := by decide +kernel
theorem zd84_51 : zDc 84 51 52 (-1) = true := by decide +kernel
theorem zd84_52 : zD 84 52 .ireturn 1 53 = true := by decide +kernel
theorem zd84_53 : zD 84 53 (.aload_n 0) 1 54 = true := by decide +kernel
theorem zd84_54 : zDg 84 54 57 7 10 (.array .int) = true := by decide +kernel
theorem zd84_57 : zDc 84 57 59 (Int32.ofNat 80) = true := by decide +kernel
theorem zd84_59 : zD 84 59 (.aload_n 0) 1 60 = true := by decide +kernel
theorem zd84_60 : zDg 84 60 63 7 9 (.array .int) = true := by decide +kernel
theorem zd84_63 : zDc 84 63 65 (Int32.ofNat 10) = true := by decide +kernel
theorem zd84_65 : zD 84 65 .iaload 1 66 = true := by decide +kernel
theorem zd84_66 : zD 84 66 .iadd 1 67 = true := by decide +kernel
theorem zd84_67 : zD 84 67 (.iload_n 1) 1 68 = true := by decide +kernel
theorem zd84_68 : zD 84 68 .iastore 1 69 = true := by decide +kernel
theorem zd84_69 : zD 84 69 (.aload_n 0) 1 70 = true := by decide +kernel
theorem zd84_70 : zDg 84 70 73 7 11 (.array .int) = true := by decide +kernel
theorem zd84_73 : zDc 84 73 75 (Int32.ofNat 80) = true := by decide +kernel
theorem zd84_75 : zD 84 75 (.aload_n 0) 1 76 = true := by decide +kernel
theorem zd84_76 : zDg 84 76 79 7 9 (.array .int) = true := by decide +kernel
theorem zd84_79 : zDc 84 79 81 (Int32.ofNat 10) = true := by decide +kernel
theorem zd84_81 : zD 84 81 .iaload 1 82 = true := by decide +kernel
theorem zd84_82 : zD 84 82 .iadd 1 83 = true := by decide +kernel
theorem zd84_83 : zDc 84 83 84 (Int32.ofNat 0) = true := by decide +kernel
theorem zd84_84 : zD 84 84 .iastore 1 85 = true := by decide +kernel
theorem zd84_85 : zD 84 85 (.aload_n 0) 1 86 = true := by decide +kernel
theorem zd84_86 : zDg 84 86 89 7 9 (.array .int) = true := by decide +kernel
theorem zd84_89 : zDc 84 89 91 (Int32.ofNat 10) = true := by decide +kernel
theorem zd84_91 : zD 84 91 .dup2 1 92 = true := by decide +kernel
theorem zd84_92 : zD 84 92 .iaload 1 93 = true := by decide +kernel
theorem zd84_93 : zDc 84 93 94 (Int32.ofNat 1) = true := by decide +kernel
theorem zd84_94 : zD 84 94 .iadd 1 95 = true := by decide +kernel
theorem zd84_95 : zD 84 95 .iastore 1 96 = true := by decide +kernel
theorem zd84_96 : zD 84 96 (.aload_n 0) 1 97 = true := by decide +kernel
theorem zd84_97 : zDg 84 97 100 7 9 (.array .int) = true := by decide +kernel
theorem zd84_100 : zDc 84 100 102 (Int32.ofNat 10) = true := by decide +kernel
theorem zd84_102 : zD 84 102 .iaload 1 103 = true := by decide +kernel
theorem zd84_103 : zDc 84 103 104 (Int32.ofNat 1) = true := by decide +kernel
theorem zd84_104 : zD 84 104 .isub 1 105 = true := by decide +kernel
theorem zd84_105 : zD 84 105 .ireturn 1 106 = true := by decide +kernel
theorem zd85_0 : zDc 85 0 1 (Int32.ofNat 0) = true := by decide +kernel
theorem zd85_1 : zD 85 1 (.istore_n 3) 1 2 = true := by decide +kernel
theorem zd85_2 : zD 85 2 (.iload_n 3) 1 3 = true := by decide +kernel
theorem zd85_3 : zD 85 3 (.aload_n 0) 1 4 = true := by decide +kernel
theorem zd85_4 : zDg 85 4 7 7 9 (.array .int) = true := by decide +kernel
theorem zd85_7 : zD 85 7 (.iload_n 1) 1 8 = true := by decide +kernel
theorem zd85_8 : zD 85 8 .iaload 1 9 = true := by decide +kernel
theorem zd85_9 : zDm 85 9 .ge 35 12 = true := by decide +kernel
theorem zd85_12 : zD 85 12 (.aload_n 0) 1 13 = true := by decide +kernel
theorem zd85_13 : zDg 85 13 16 7 10 (.array .int) = true := by decide +kernel
theorem zd85_16 : zDc 85 16 18 (Int32.ofNat 8) = true := by decide +kernel
theorem zd85_18 : zD 85 18 (.iload_n 1) 1 19 = true := by decide +kernel
theorem zd85_19 : zD 85 19 .imul 1 20 = true := by decide +kernel
theorem zd85_20 : zD 85 20 (.iload_n 3) 1 21 = true := by decide +kernel
theorem zd85_21 : zD 85 21 .iadd 1 22 = true := by decide +kernel
theorem zd85_22 : zD 85 22 .iaload 1 23 = true := by decide +kernel
theorem zd85_23 : zD 85 23 (.iload_n 2) 1 24 = true := by decide +kernel
theorem zd85_24 : zDm 85 24 .ne 29 27 = true := by decide +kernel
theorem zd85_27 : zD 85 27 (.iload_n 3) 1 28 = true := by decide +kernel
theorem zd85_28 : zD 85 28 .ireturn 1 29 = true := by decide +kernel
theorem zd85_29 : zDi 85 29 32 3 (Int32.ofNat 1) = true := by decide +kernel
theorem zd85_32 : zDj 85 32 2 = true := by decide +kernel
theorem zd85_35 : zDc 85 35 36 (-1) = true := by decide +kernel
theorem zd85_36 : zD 85 36 .ireturn 1 37 = true := by decide +kernel
theorem zd86_0 : zD 86 0 (.aload_n 0) 1 1 = true := by decide +kernel
theorem zd86_1 : zD 86 1 (.iload_n 1) 1 2 = true := by decide +kernel
theorem zd86_2 : zDf 86 2 .lt 16 5 = true := by decide +kernel
theorem zd86_5 : zD 86 5 (.iload_n 1) 1 6 = true := by decide +kernel
theorem zd86_6 : zD 86 6 (.aload_n 0) 1 7 = true := by decide +kernel
theorem zd86_7 : zDg 86 7 10 7 9 (.array .int) = true := by decide +kernel
theorem zd86_10 : zDc 86 10 12 (Int32.ofNat 10) = true := by decide +kernel
theorem zd86_12 : zD 86 12 .iaload 1 13 = true := by decide +kernel
theorem zd86_13 : zDm 86 13 .lt 20 16 = true := by decide +kernel
theorem zd86_16 : zDc 86 16 17 (Int32.ofNat 1) = true := by decide +kernel
theorem zd86_17 : zDj 86 17 32 = true := by decide +kernel
theorem zd86_20 : zD 86 20 (.iload_n 2) 1 21 = true := by decide +kernel
theorem zd86_21 : zDk 86 21 24 87 2 = true := by decide +kernel
theorem zd86_24 : zDf 86 24 .eq 31 27 = true := by decide +kernel
theorem zd86_27 : zDc 86 27 28 (Int32.ofNat 0) = true := by decide +kernel
theorem zd86_28 : zDj 86 28 32 = true := by decide +kernel
theorem zd86_31 : zDc 86 31 32 (Int32.ofNat 2) = true := by decide +kernel
theorem zd86_32 : zDp 86 32 35 7 0 (.int) = true := by decide +kernel
theorem zd86_35 : zDc 86 35 37 (Int32.ofNat 80) = true := by decide +kernel
theorem zd86_37 : zD 86 37 (.iload_n 1) 1 38 = true := by decide +kernel
theorem zd86_38 : zD 86 38 .iadd 1 39 = true := by decide +kernel
theorem zd86_39 : zD 86 39 (.istore_n 3) 1 40 = true := by decide +kernel
theorem zd86_40 : zD 86 40 (.aload_n 0) 1 41 = true := by decide +kernel
theorem zd86_41 : zDg 86 41 44 7 0 (.int) = true := by decide +kernel
theorem zd86_44 : zDf 86 44 .ne 58 47 = true := by decide +kernel
theorem zd86_47 : zD 86 47 (.aload_n 0) 1 48 = true := by decide +kernel
theorem zd86_48 : zDg 86 48 51 7 11 (.array .int) = true := by decide +kernel
theorem zd86_51 : zD 86 51 (.iload_n 3) 1 52 = true := by decide +kernel
theorem zd86_52 : zD 86 52 .iaload 1 53 = true := by decide +kernel
theorem zd86_53 : zDc 86 53 55 (Int32.ofNat 64) = true := by decide +kernel
theorem zd86_55 : zDm 86 55 .ne 60 58 = true := by decide +kernel
theorem zd86_58 : zDc 86 58 59 (Int32.ofNat 0) = true := by decide +kernel
theorem zd86_59 : zD 86 59 .ireturn 1 60 = true := by decide +kernel
theorem zd86_60 : zD 86 60 (.aload_n 0) 1 61 = true := by decide +kernel
theorem zd86_61 : zDg 86 61 64 7 12 (.array .int) = true := by decide +kernel
theorem zd86_64 : zDc 86 64 66 (Int32.ofNat 64) = true := by decide +kernel
theorem zd86_66 : zD 86 66 (.iload_n 3) 1 67 = true := by decide +kernel
theorem zd86_67 : zD 86 67 .imul 1 68 = true := by decide +kernel
theorem zd86_68 : zD 86 68 (.aload_n 0) 1 69 = true := by decide +kernel
theorem zd86_69 : zDg 86 69 72 7 11 (.array .int) = true := by decide +kernel
theorem zd86_72 : zD 86 72 (.iload_n 3) 1 73 = true := by decide +kernel
theorem zd86_73 : zD 86 73 .iaload 1 74 = true := by decide +kernel
theorem zd86_74 : zD 86 74 .iadd 1 75 = true := by decide +kernel
theorem zd86_75 : zD 86 75 (.iload_n 2) 1 76 = true := by decide +kernel
theorem zd86_76 : zD 86 76 .iastore 1 77 = true := by decide +kernel
theorem zd86_77 : zD 86 77 (.aload_n 0) 1 78 = true := by decide +kernel
theorem zd86_78 : zDg 86 78 81 7 11 (.array .int) = true := by decide +kernel
theorem zd86_81 : zD 86 81 (.iload_n 3) 1 82 = true := by decide +kernel
theorem zd86_82 : zD 86 82 .dup2 1 83 = true := by decide +kernel
theorem zd86_83 : zD 86 83 .iaload 1 84 = true := by decide +kernel
theorem zd86_84 : zDc 86 84 85 (Int32.ofNat 1) = true := by decide +kernel
theorem zd86_85 : zD 86 85 .iadd 1 86 = true := by decide +kernel
theorem zd86_86 : zD 86 86 .iastore 1 87 = true := by decide +kernel
theorem zd86_87 : zDc 86 87 88 (Int32.ofNat 1) = true := by decide +kernel
theorem zd86_88 : zD 86 88 .ireturn 1 89 = true := by decide +kernel
theorem zd87_0 : zD 87 0 (.iload_n 0) 1 1 = true := by decide +kernel
theorem zd87_1 : zDf 87 1 .lt 15 4 = true := by decide +kernel
theorem zd87_4 : zD 87 4 (.iload_n 0) 1 5 = true := by decide +kernel
theorem zd87_5 : zDc 87 5 8 (Int32.ofNat 256) = true := by decide +kernel
theorem zd87_8 : zDm 87 8 .ge 15 11 = true := by decide +kernel
theorem zd87_11 : zDc 87 11 12 (Int32.ofNat 1) = true := by decide +kernel
theorem zd87_12 : zDj 87 12 16 = true := by decide +kernel
theorem zd87_15 : zDc 87 15 16 (Int32.ofNat 0) = true := by decide +kernel
theorem zd87_16 : zD 87 16 .ireturn 1 17 = true := by decide +kernel
theorem zd88_0 : zD 88 0 (.aload_n 0) 1 1 = true := by decide +kernel
theorem zd88_1 : zDc 88 1 2 (Int32.ofNat 0) = true := by decide +kernel
theorem zd88_2 : zDp 88 2 5 7 0 (.int) = true := by decide +kernel
theorem zd88_5 : zD 88 5 (.aload_n 0) 1 6 = true := by decide +kernel
theorem zd88_6 : zDg 88 6 9 7 8 (.int) = true := by decide +kernel
theorem zd88_9 : zDc 88 9 11 (Int32.ofNat 10) = true := by decide +kernel
theorem zd88_11 : zDm 88 11 .ne 16 14 = true := by decide +kernel
theorem zd88_14 : zDc 88 14 15 (-1) = true := by decide +kernel
theorem zd88_15 : zD 88 15 .ireturn 1 16 = true := by decide +kernel
theorem zd88_16 : zD 88 16 (.aload_n 0) 1 17 = true := by decide +kernel
theorem zd88_17 : zDg 88 17 20 7 8 (.int) = true := by decide +kernel
theorem zd88_20 : zD 88 20 (.istore_n 1) 1 21 = true := by decide +kernel
theorem zd88_21 : zDc 88 21 22 (-1) = true := by decide +kernel
theorem zd88_22 : zD 88 22 (.istore_n 2) 1 23 = true := by decide +kernel
theorem zd88_23 : zDc 88 23 24 (Int32.ofNat 0) = true := by decide +kernel
theorem zd88_24 : zD 88 24 (.istore_n 3) 1 25 = true := by decide +kernel
theorem zd88_25 : zD 88 25 (.iload_n 3) 1 26 = true := by decide +kernel
theorem zd88_26 : zD 88 26 (.aload_n 0) 1 27 = true := by decide +kernel
theorem zd88_27 : zDg 88 27 30 7 9 (.array .int) = true := by decide +kernel
theorem zd88_30 : zDc 88 30 32 (Int32.ofNat 10) = true := by decide +kernel
theorem zd88_32 : zD 88 32 .iaload 1 33 = true := by decide +kernel
theorem zd88_33 : zDm 88 33 .ge 174 36 = true := by decide +kernel
theorem zd88_36 : zDc 88 36 38 (Int32.ofNat 80) = true := by decide +kernel
theorem zd88_38 : zD 88 38 (.aload_n 0) 1 39 = true := by decide +kernel
theorem zd88_39 : zD 88 39 (.iload_n 2) 1 40 = true := by decide +kernel
theorem zd88_40 : zDk 88 40 43 89 0 = true := by decide +kernel
theorem zd88_43 : zD 88 43 .iadd 1 44 = true := by decide +kernel
theorem zd88_44 : zD 88 44 (.istore 4) 2 46 = true := by decide +kernel
theorem zd88_46 : zDc 88 46 48 (Int32.ofNat 8) = true := by decide +kernel
theorem zd88_48 : zD 88 48 (.iload_n 1) 1 49 = true := by decide +kernel
theorem zd88_49 : zD 88 49 .imul 1 50 = true := by decide +kernel
theorem zd88_50 : zD 88 50 (.iload_n 3) 1 51 = true := by decide +kernel
theorem zd88_51 : zD 88 51 .iadd 1 52 = true := by decide +kernel
theorem zd88_52 : zD 88 52 (.istore 5) 2 54 = true := by decide +kernel
theorem zd88_54 : zD 88 54 (.aload_n 0) 1 55 = true := by decide +kernel
theorem zd88_55 : zDg 88 55 58 7 10 (.array .int) = true := by decide +kernel
theorem zd88_58 : zD 88 58 (.iload 4) 2 60 = true := by decide +kernel
theorem zd88_60 : zD 88 60 .iaload 1 61 = true := by decide +kernel
theorem zd88_61 : zD 88 61 (.istore_n 2) 1 62 = true := by decide +kernel
theorem zd88_62 : zD 88 62 (.aload_n 0) 1 63 = true := by decide +kernel
theorem zd88_63 : zDg 88 63 66 7 10 (.array .int) = true := by decide +kernel
theorem zd88_66 : zD 88 66 (.iload 5) 2 68 = true := by decide +kernel
theorem zd88_68 : zD 88 68 (.iload_n 2) 1 69 = true := by decide +kernel
theorem zd88_69 : zD 88 69 .iastore 1 70 = true := by decide +kernel
theorem zd88_70 : zD 88 70 (.aload_n 0) 1 71 = true := by decide +kernel
theorem zd88_71 : zDg 88 71 74 7 11 (.array .int) = true := by decide +kernel
theorem zd88_74 : zD 88 74 (.iload 5) 2 76 = true := by decide +kernel
theorem zd88_76 : zD 88 76 (.aload_n 0) 1 77 = true := by decide +kernel
theorem zd88_77 : zDg 88 77 80 7 11 (.array .int) = true := by decide +kernel
theorem zd88_80 : zD 88 80 (.iload 4) 2 82 = true := by decide +kernel
theorem zd88_82 : zD 88 82 .iaload 1 83 = true := by decide +kernel
theorem zd88_83 : zD 88 83 .iastore 1 84 = true := by decide +kernel
theorem zd88_84 : zDc 88 84 85 (Int32.ofNat 0) = true := by decide +kernel
theorem zd88_85 : zD 88 85 (.istore 6) 2 87 = true := by decide +kernel
theorem zd88_87 : zD 88 87 (.iload 6) 2 89 = true := by decide +kernel
theorem zd88_89 : zDc 88 89 91 (Int32.ofNat 64) = true := by decide +kernel
theorem zd88_91 : zDm 88 91 .ge 126 94 = true := by decide +kernel
theorem zd88_94 : zD 88 94 (.aload_n 0) 1 95 = true := by decide +kernel
theorem zd88_95 : zDg 88 95 98 7 12 (.array .int) = true := by decide +kernel
theorem zd88_98 : zDc 88 98 100 (Int32.ofNat 64) = true := by decide +kernel
theorem zd88_100 : zD 88 100 (.iload 5) 2 102 = true := by decide +kernel
theorem zd88_102 : zD 88 102 .imul 1 103 = true := by decide +kernel
theorem zd88_103 : zD 88 103 (.iload 6) 2 105 = true := by decide +kernel
theorem zd88_105 : zD 88 105 .iadd 1 106 = true := by decide +kernel
theorem zd88_106 : zD 88 106 (.aload_n 0) 1 107 = true := by decide +kernel
theorem zd88_107 : zDg 88 107 110 7 12 (.array .int) = true := by decide +kernel
theorem zd88_110 : zDc 88 110 112 (Int32.ofNat 64) = true := by decide +kernel
theorem zd88_112 : zD 88 112 (.iload 4) 2 114 = true := by decide +kernel
theorem zd88_114 : zD 88 114 .imul 1 115 = true := by decide +kernel
theorem zd88_115 : zD 88 115 (.iload 6) 2 117 = true := by decide +kernel
theorem zd88_117 : zD 88 117 .iadd 1 118 = true := by decide +kernel
theorem zd88_118 : zD 88 118 .iaload 1 119 = true := by decide +kernel
theorem zd88_119 : zD 88 119 .iastore 1 120 = true := by decide +kernel
theorem zd88_120 : zDi 88 120 123 6 (Int32.ofNat 1) = true := by decide +kernel
theorem zd88_123 : zDj 88 123 87 = true := by decide +kernel
theorem zd88_126 : zD 88 126 (.aload_n 0) 1 127 = true := by decide +kernel
theorem zd88_127 : zD 88 127 (.iload 5) 2 129 = true := by decide +kernel
theorem zd88_129 : zDk 88 129 132 90 0 = true := by decide +kernel
theorem zd88_132 : zDc 88 132 133 (Int32.ofNat 0) = true := by decide +kernel
theorem zd88_133 : zD 88 133 (.istore 6) 2 135 = true := by decide +kernel
theorem zd88_135 : zD 88 135 (.iload 6) 2 137 = true := by decide +kernel
theorem zd88_137 : zDc 88 137 139 (Int32.ofNat 32) = true := by decide +kernel
theorem zd88_139 : zDm 88 139 .ge 168 142 = true := by decide +kernel
theorem zd88_142 : zD 88 142 (.aload_n 0) 1 143 = true := by decide +kernel
theorem zd88_143 : zDg 88 143 146 7 13 (.array .int) = true := by decide +kernel
theorem zd88_146 : zDc 88 146 148 (Int32.ofNat 32) = true := by decide +kernel
theorem zd88_148 : zD 88 148 (.iload 5) 2 150 = true := by decide +kernel
theorem zd88_150 : zD 88 150 .imul 1 151 = true := by decide +kernel
theorem zd88_151 : zD 88 151 (.iload 6) 2 153 = true := by decide +kernel
theorem zd88_153 : zD 88 153 .iadd 1 154 = true := by decide +kernel
theorem zd88_154 : zD 88 154 (.aload_n 0) 1 155 = true := by decide +kernel
theorem zd88_155 : zDg 88 155 158 7 7 (.array .int) = true := by decide +kernel
theorem zd88_158 : zD 88 158 (.iload 6) 2 160 = true := by decide +kernel
theorem zd88_160 : zD 88 160 .iaload 1 161 = true := by decide +kernel
theorem zd88_161 : zD 88 161 .iastore 1 162 = true := by decide +kernel
theorem zd88_162 : zDi 88 162 165 6 (Int32.ofNat 1) = true := by decide +kernel
theorem zd88_165 : zDj 88 165 135 = true := by decide +kernel
theorem zd88_168 : zDi 88 168 171 3 (Int32.ofNat 1) = true := by decide +kernel
theorem zd88_171 : zDj 88 171 25 = true := by decide +kernel
theorem zd88_174 : zD 88 174 (.aload_n 0) 1 175 = true := by decide +kernel
theorem zd88_175 : zDg 88 175 178 7 9 (.array .int) = true := by decide +kernel
theorem zd88_178 : zD 88 178 (.iload_n 1) 1 179 = true := by decide +kernel
theorem zd88_179 : zD 88 179 (.aload_n 0) 1 180 = true := by decide +kernel
theorem zd88_180 : zDg 88 180 183 7 9 (.array .int) = true := by decide +kernel
theorem zd88_183 : zDc 88 183 185 (Int32.ofNat 10) = true := by decide +kernel
theorem zd88_185 : zD 88 185 .iaload 1 186 = true := by decide +kernel
theorem zd88_186 : zD 88 186 .iastore 1 187 = true := by decide +kernel
theorem zd88_187 : zD 88 187 (.aload_n 0) 1 188 = true := by decide +kernel
theorem zd88_188 : zDg 88 188 191 7 9 (.array .int) = true := by decide +kernel
theorem zd88_191 : zDc 88 191 193 (Int32.ofNat 10) = true := by decide +kernel
theorem zd88_193 : zDc 88 193 194 (Int32.ofNat 0) = true := by decide +kernel
theorem zd88_194 : zD 88 194 .iastore 1 195 = true := by decide +kernel
theorem zd88_195 : zD 88 195 (.aload_n 0) 1 196 = true := by decide +kernel
theorem zd88_196 : zD 88 196 .dup 1 197 = true := by decide +kernel
theorem zd88_197 : zDg 88 197 200 7 8 (.int) = true := by decide +kernel
theorem zd88_200 : zDc 88 200 201 (Int32.ofNat 1) = true := by decide +kernel
theorem zd88_201 : zD 88 201 .iadd 1 202 = true := by decide +kernel
theorem zd88_202 : zDp 88 202 205 7 8 (.int) = true := by decide +kernel
theorem zd88_205 : zD 88 205 (.aload_n 0) 1 206 = true := by decide +kernel
theorem zd88_206 : zD 88 206 (.iload_n 1) 1 207 = true := by decide +kernel
theorem zd88_207 : zDk 88 207 210 95 0 = true := by decide +kernel
theorem zd88_210 : zD 88 210 (.aload_n 0) 1 211 = true := by decide +kernel
theorem zd88_211 : zDg 88 211 214 7 15 (.int) = true := by decide +kernel
theorem zd88_214 : zDc 88 214 215 (Int32.ofNat 1) = true := by decide +kernel
theorem zd88_215 : zDm 88 215 .le 225 218 = true := by decide +kernel
theorem zd88_218 : zD 88 218 (.aload_n 0) 1 219 = true := by decide +kernel
theorem zd88_219 : zDk 88 219 222 96 0 = true := by decide +kernel
theorem zd88_222 : zDj 88 222 210 = true := by decide +kernel
theorem zd88_225 : zD 88 225 (.aload_n 0) 1 226 = true := by decide +kernel
theorem zd88_226 : zDg 88 226 229 7 15 (.int) = true := by decide +kernel
theorem zd88_229 : zDf 88 229 .ne 236 232 = true := by decide +kernel
theorem zd88_232 : zD 88 232 (.aload_n 0) 1 233 = true := by decide +kernel
theorem zd88_233 : zDk 88 233 236 92 0 = true := by decide +kernel
theorem zd88_236 : zDc 88 236 237 (Int32.ofNat 0) = true := by decide +kernel
theorem zd88_237 : zD 88 237 (.istore_n 3) 1 238 = true := by decide +kernel
theorem zd88_238 : zD 88 238 (.iload_n 3) 1 239 = true := by decide +kernel
theorem zd88_239 : zDc 88 239 241 (Int32.ofNat 32) = true := by decide +kernel
theorem zd88_241 : zDm 88 241 .ge 283 244 = true := by decide +kernel
theorem zd88_244 : zD 88 244 (.aload_n 0) 1 245 = true := by decide +kernel
theorem zd88_245 : zDg 88 245 248 7 14 (.array .int) = true := by decide +kernel
theorem zd88_248 : zDc 88 248 250 (Int32.ofNat 32) = true := by decide +kernel
theorem zd88_250 : zD 88 250 (.iload_n 1) 1 251 = true := by decide +kernel
theorem zd88_251 : zD 88 251 .imul 1 252 = true := by decide +kernel
theorem zd88_252 : zD 88 252 (.iload_n 3) 1 253 = true := by decide +kernel
theorem zd88_253 : zD 88 253 .iadd 1 254 = true := by decide +kernel
theorem zd88_254 : zD 88 254 (.aload_n 0) 1 255 = true := by decide +kernel
theorem zd88_255 : zDg 88 255 258 7 15 (.int) = true := by decide +kernel
theorem zd88_258 : zDf 88 258 .ne 270 261 = true := by decide +kernel
theorem zd88_261 : zD 88 261 (.aload_n 0) 1 262 = true := by decide +kernel
theorem zd88_262 : zDg 88 262 265 7 7 (.array .int) = true := by decide +kernel
theorem zd88_265 : zD 88 265 (.iload_n 3) 1 266 = true := by decide +kernel
theorem zd88_266 : zD 88 266 .iaload 1 267 = true := by decide +kernel
theorem zd88_267 : zDj 88 267 276 = true := by decide +kernel
theorem zd88_270 : zD 88 270 (.aload_n 0) 1 271 = true := by decide +kernel
theorem zd88_271 : zDg 88 271 274 7 16 (.array .int) = true := by decide +kernel
theorem zd88_274 : zD 88 274 (.iload_n 3) 1 275 = true := by decide +kernel
theorem zd88_275 : zD 88 275 .iaload 1 276 = true := by decide +kernel
theorem zd88_276 : zD 88 276 .iastore 1 277 = true := by decide +kernel
theorem zd88_277 : zDi 88 277 280 3 (Int32.ofNat 1) = true := by decide +kernel
theorem zd88_280 : zDj 88 280 238 = true := by decide +kernel
theorem zd88_283 : zD 88 283 (.iload_n 1) 1 284 = true := by decide +kernel
theorem zd88_284 : zD 88 284 .ireturn 1 285 = true := by decide +kernel
theorem zd89_0 : zDc 89 0 1 (-1) = true := by decide +kernel
theorem zd89_1 : zD 89 1 (.istore_n 2) 1 2 = true := by decide +kernel
theorem zd89_2 : zDc 89 2 3 (Int32.ofNat 0) = true := by decide +kernel
theorem zd89_3 : zD 89 3 (.istore_n 3) 1 4 = true := by decide +kernel
theorem zd89_4 : zD 89 4 (.iload_n 3) 1 5 = true := by decide +kernel
theorem zd89_5 : zD 89 5 (.aload_n 0) 1 6 = true := by decide +kernel
theorem zd89_6 : zDg 89 6 9 7 9 (.array .int) = true := by decide +kernel
theorem zd89_9 : zDc 89 9 11 (Int32.ofNat 10) = true := by decide +kernel
theorem zd89_11 : zD 89 11 .iaload 1 12 = true := by decide +kernel
theorem zd89_12 : zDm 89 12 .ge 59 15 = true := by decide +kernel
theorem zd89_15 : zD 89 15 (.aload_n 0) 1 16 = true := by decide +kernel
theorem zd89_16 : zDg 89 16 19 7 10 (.array .int) = true := by decide +kernel
theorem zd89_19 : zDc 89 19 21 (Int32.ofNat 80) = true := by decide +kernel
theorem zd89_21 : zD 89 21 (.iload_n 3) 1 22 = true := by decide +kernel
theorem zd89_22 : zD 89 22 .iadd 1 23 = true := by decide +kernel
theorem zd89_23 : zD 89 23 .iaload 1 24 = true := by decide +kernel
theorem zd89_24 : zD 89 24 (.istore 4) 2 26 = true := by decide +kernel
theorem zd89_26 : zD 89 26 (.iload 4) 2 28 = true := by decide +kernel
theorem zd89_28 : zD 89 28 (.iload_n 1) 1 29 = true := by decide +kernel
theorem zd89_29 : zDm 89 29 .le 53 32 = true := by decide +kernel
theorem zd89_32 : zD 89 32 (.iload_n 2) 1 33 = true := by decide +kernel
theorem zd89_33 : zDc 89 33 34 (-1) = true := by decide +kernel
theorem zd89_34 : zDm 89 34 .eq 51 37 = true := by decide +kernel
theorem zd89_37 : zD 89 37 (.iload 4) 2 39 = true := by decide +kernel
theorem zd89_39 : zD 89 39 (.aload_n 0) 1 40 = true := by decide +kernel
theorem zd89_40 : zDg 89 40 43 7 10 (.array .int) = true := by decide +kernel
theorem zd89_43 : zDc 89 43 45 (Int32.ofNat 80) = true := by decide +kernel
theorem zd89_45 : zD 89 45 (.iload_n 2) 1 46 = true := by decide +kernel
theorem zd89_46 : zD 89 46 .iadd 1 47 = true := by decide +kernel
theorem zd89_47 : zD 89 47 .iaload 1 48 = true := by decide +kernel
theorem zd89_48 : zDm 89 48 .ge 53 51 = true := by decide +kernel
theorem zd89_51 : zD 89 51 (.iload_n 3) 1 52 = true := by decide +kernel
theorem zd89_52 : zD 89 52 (.istore_n 2) 1 53 = true := by decide +kernel
theorem zd89_53 : zDi 89 53 56 3 (Int32.ofNat 1) = true := by decide +kernel
theorem zd89_56 : zDj 89 56 4 = true := by decide +kernel
theorem zd89_59 : zD 89 59 (.iload_n 2) 1 60 = true := by decide +kernel
theorem zd89_60 : zD 89 60 .ireturn 1 61 = true := by decide +kernel
theorem zd90_0 : zD 90 0 (.aload_n 0) 1 1 = true := by decide +kernel
theorem zd90_1 : zDc 90 1 2 (Int32.ofNat 0) = true := by decide +kernel
theorem zd90_2 : zDk 90 2 5 91 0 = true := by decide +kernel
theorem zd90_5 : zD 90 5 (.aload_n 0) 1 6 = true := by decide +kernel
theorem zd90_6 : zD 90 6 (.aload_n 0) 1 7 = true := by decide +kernel
theorem zd90_7 : zDg 90 7 10 7 10 (.array .int) = true := by decide +kernel
theorem zd90_10 : zD 90 10 (.iload_n 1) 1 11 = true := by decide +kernel
theorem zd90_11 : zD 90 11 .iaload 1 12 = true := by decide +kernel
theorem zd90_12 : zDc 90 12 14 (Int32.ofNat 8) = true := by decide +kernel
theorem zd90_14 : zD 90 14 .ishr 1 15 = true := by decide +kernel
theorem zd90_15 : zDk 90 15 18 91 0 = true := by decide +kernel
theorem zd90_18 : zD 90 18 (.aload_n 0) 1 19 = true := by decide +kernel
theorem zd90_19 : zD 90 19 (.aload_n 0) 1 20 = true := by decide +kernel
theorem zd90_20 : zDg 90 20 23 7 10 (.array .int) = true := by decide +kernel
theorem zd90_23 : zD 90 23 (.iload_n 1) 1 24 = true := by decide +kernel
theorem zd90_24 : zD 90 24 .iaload 1 25 = true := by decide +kernel
theorem zd90_25 : zDc 90 25 28 (Int32.ofNat 255) = true := by decide +kernel
theorem zd90_28 : zD 90 28 .iand 1 29 = true := by decide +kernel
theorem zd90_29 : zDk 90 29 32 91 0 = true := by decide +kernel
theorem zd90_32 : zDc 90 32 33 (Int32.ofNat 0) = true := by decide +kernel
theorem zd90_33 : zD 90 33 (.istore_n 2) 1 34 = true := by decide +kernel
theorem zd90_34 : zD 90 34 (.iload_n 2) 1 35 = true := by decide +kernel
theorem zd90_35 : zD 90 35 (.aload_n 0) 1 36 = true := by decide +kernel
theorem zd90_36 : zDg 90 36 39 7 11 (.array .int) = true := by decide +kernel
theorem zd90_39 : zD 90 39 (.iload_n 1) 1 40 = true := by decide +kernel
theorem zd90_40 : zD 90 40 .iaload 1 41 = true := by decide +kernel
theorem zd90_41 : zDm 90 41 .ge 65 44 = true := by decide +kernel
theorem zd90_44 : zD 90 44 (.aload_n 0) 1 45 = true := by decide +kernel
theorem zd90_45 : zD 90 45 (.aload_n 0) 1 46 = true := by decide +kernel
theorem zd90_46 : zDg 90 46 49 7 12 (.array .int) = true := by decide +kernel
theorem zd90_49 : zDc 90 49 51 (Int32.ofNat 64) = true := by decide +kernel
theorem zd90_51 : zD 90 51 (.iload_n 1) 1 52 = true := by decide +kernel
theorem zd90_52 : zD 90 52 .imul 1 53 = true := by decide +kernel
theorem zd90_53 : zD 90 53 (.iload_n 2) 1 54 = true := by decide +kernel
theorem zd90_54 : zD 90 54 .iadd 1 55 = true := by decide +kernel
theorem zd90_55 : zD 90 55 .iaload 1 56 = true := by decide +kernel
theorem zd90_56 : zDk 90 56 59 91 0 = true := by decide +kernel
theorem zd90_59 : zDi 90 59 62 2 (Int32.ofNat 1) = true := by decide +kernel
theorem zd90_62 : zDj 90 62 34 = true := by decide +kernel
theorem zd90_65 : zD 90 65 (.aload_n 0) 1 66 = true := by decide +kernel
theorem zd90_66 : zDk 90 66 69 92 0 = true := by decide +kernel
theorem zd90_69 : zD 90 69 .return_ 1 70 = true := by decide +kernel
theorem zd91_0 : zD 91 0 (.aload_n 0) 1 1 = true := by decide +kernel
theorem zd91_1 : zDg 91 1 4 7 3 (.array .int) = true := by decide +kernel
theorem zd91_4 : zD 91 4 (.aload_n 0) 1 5 = true := by decide +kernel
theorem zd91_5 : zDg 91 5 8 7 2 (.int) = true := by decide +kernel
theorem zd91_8 : zD 91 8 (.iload_n 1) 1 9 = true := by decide +kernel
theorem zd91_9 : zD 91 9 .iastore 1 10 = true := by decide +kernel
theorem zd91_10 : zD 91 10 (.aload_n 0) 1 11 = true := by decide +kernel
theorem zd91_11 : zD 91 11 .dup 1 12 = true := by decide +kernel
theorem zd91_12 : zDg 91 12 15 7 2 (.int) = true := by decide +kernel
theorem zd91_15 : zDc 91 15 16 (Int32.ofNat 1) = true := by decide +kernel
theorem zd91_16 : zD 91 16 .iadd 1 17 = true := by decide +kernel
theorem zd91_17 : zDp 91 17 20 7 2 (.int) = true := by decide +kernel
theorem zd91_20 : zD 91 20 .return_ 1 21 = true := by decide +kernel
theorem zd92_0 : zD 92 0 (.aload_n 0) 1 1 = true := by decide +kernel
theorem zd92_1 : zDg 92 1 4 7 2 (.int) = true := by decide +kernel
theorem zd92_4 : zD 92 4 (.istore_n 1) 1 5 = true := by decide +kernel
theorem zd92_5 : zD 92 5 (.aload_n 0) 1 6 = true := by decide +kernel
theorem zd92_6 : zDc 92 6 9 (Int32.ofNat 128) = true := by decide +kernel
theorem zd92_9 : zDk 92 9 12 91 0 = true := by decide +kernel
theorem zd92_12 : zD 92 12 (.aload_n 0) 1 13 = true := by decide +kernel
theorem zd92_13 : zDg 92 13 16 7 2 (.int) = true := by decide +kernel
theorem zd92_16 : zDc 92 16 18 (Int32.ofNat 64) = true := by decide +kernel
theorem zd92_18 : zD 92 18 .irem 1 19 = true := by decide +kernel
theorem zd92_19 : zDc 92 19 21 (Int32.ofNat 56) = true := by decide +kernel
theorem zd92_21 : zDm 92 21 .eq 32 24 = true := by decide +kernel
theorem zd92_24 : zD 92 24 (.aload_n 0) 1 25 = true := by decide +kernel
theorem zd92_25 : zDc 92 25 26 (Int32.ofNat 0) = true := by decide +kernel
theorem zd92_26 : zDk 92 26 29 91 0 = true := by decide +kernel
theorem zd92_29 : zDj 92 29 12 = true := by decide +kernel
theorem zd92_32 : zDc 92 32 33 (Int32.ofNat 0) = true := by decide +kernel
theorem zd92_33 : zD 92 33 (.istore_n 2) 1 34 = true := by decide +kernel
theorem zd92_34 : zD 92 34 (.iload_n 2) 1 35 = true := by decide +kernel
theorem zd92_35 : zDc 92 35 36 (Int32.ofNat 4) = true := by decide +kernel
theorem zd92_36 : zDm 92 36 .ge 50 39 = true := by decide +kernel
theorem zd92_39 : zD 92 39 (.aload_n 0) 1 40 = true := by decide +kernel
theorem zd92_40 : zDc 92 40 41 (Int32.ofNat 0) = true := by decide +kernel
theorem zd92_41 : zDk 92 41 44 91 0 = true := by decide +kernel
theorem zd92_44 : zDi 92 44 47 2 (Int32.ofNat 1) = true := by decide +kernel
theorem zd92_47 : zDj 92 47 34 = true := by decide +kernel
theorem zd92_50 : zDc 92 50 52 (Int32.ofNat 24) = true := by decide +kernel
theorem zd92_52 : zD 92 52 (.istore_n 2) 1 53 = true := by decide +kernel
theorem zd92_53 : zD 92 53 (.iload_n 2) 1 54 = true := by decide +kernel
theorem zd92_54 : zDf 92 54 .lt 77 57 = true := by decide +kernel
theorem zd92_57 : zD 92 57 (.aload_n 0) 1 58 = true := by decide +kernel
theorem zd92_58 : zDc 92 58 60 (Int32.ofNat 8) = true := by decide +kernel
theorem zd92_60 : zD 92 60 (.iload_n 1) 1 61 = true := by decide +kernel
theorem zd92_61 : zD 92 61 .imul 1 62 = true := by decide +kernel
theorem zd92_62 : zD 92 62 (.iload_n 2) 1 63 = true := by decide +kernel
theorem zd92_63 : zD 92 63 .ishr 1 64 = true := by decide +kernel
theorem zd92_64 : zDc 92 64 67 (Int32.ofNat 255) = true := by decide +kernel
theorem zd92_67 : zD 92 67 .iand 1 68 = true := by decide +kernel
theorem zd92_68 : zDk 92 68 71 91 0 = true := by decide +kernel
theorem zd92_71 : zDi 92 71 74 2 (-(Int32.ofNat 8)) = true := by decide +kernel
theorem zd92_74 : zDj 92 74 53 = true := by decide +kernel
theorem zd92_77 : zD 92 77 (.aload_n 0) 1 78 = true := by decide +kernel
theorem zd92_78 : zDg 92 78 81 7 5 (.array .int) = true := by decide +kernel
theorem zd92_81 : zDc 92 81 82 (Int32.ofNat 0) = true := by decide +kernel
theorem zd92_82 : zDc 92 82 84 (Int32.ofNat 1779033703) = true := by decide +kernel
theorem zd92_84 : zD 92 84 .iastore 1 85 = true := by decide +kernel
theorem zd92_85 : zD 92 85 (.aload_n 0) 1 86 = true := by decide +kernel
theorem zd92_86 : zDg 92 86 89 7 5 (.array .int) = true := by decide +kernel
theorem zd92_89 : zDc 92 89 90 (Int32.ofNat 1) = true := by decide +kernel
theorem zd92_90 : zDc 92 90 92 (-1150833019) = true := by decide +kernel
theorem zd92_92 : zD 92 92 .iastore 1 93 = true := by decide +kernel
theorem zd92_93 : zD 92 93 (.aload_n 0) 1 94 = true := by decide +kernel
theorem zd92_94 : zDg 92 94 97 7 5 (.array .int) = true := by decide +kernel
theorem zd92_97 : zDc 92 97 98 (Int32.ofNat 2) = true := by decide +kernel
theorem zd92_98 : zDc 92 98 100 (Int32.ofNat 1013904242) = true := by decide +kernel
theorem zd92_100 : zD 92 100 .iastore 1 101 = true := by decide +kernel
theorem zd92_101 : zD 92 101 (.aload_n 0) 1 102 = true := by decide +kernel
theorem zd92_102 : zDg 92 102 105 7 5 (.array .int) = true := by decide +kernel
theorem zd92_105 : zDc 92 105 106 (Int32.ofNat 3) = true := by decide +kernel
theorem zd92_106 : zDc 92 106 108 (-1521486534) = true := by decide +kernel
theorem zd92_108 : zD 92 108 .iastore 1 109 = true := by decide +kernel
theorem zd92_109 : zD 92 109 (.aload_n 0) 1 110 = true := by decide +kernel
theorem zd92_110 : zDg 92 110 113 7 5 (.array .int) = true := by decide +kernel
theorem zd92_113 : zDc 92 113 114 (Int32.ofNat 4) = true := by decide +kernel
theorem zd92_114 : zDc 92 114 116 (Int32.ofNat 1359893119) = true := by decide +kernel
theorem zd92_116 : zD 92 116 .iastore 1 117 = true := by decide +kernel
theorem zd92_117 : zD 92 117 (.aload_n 0) 1 118 = true := by decide +kernel
theorem zd92_118 : zDg 92 118 121 7 5 (.array .int) = true := by decide +kernel
theorem zd92_121 : zDc 92 121 122 (Int32.ofNat 5) = true := by decide +kernel
theorem zd92_122 : zDc 92 122 124 (-1694144372) = true := by decide +kernel
theorem zd92_124 : zD 92 124 .iastore 1 125 = true := by decide +kernel
theorem zd92_125 : zD 92 125 (.aload_n 0) 1 126 = true := by decide +kernel
theorem zd92_126 : zDg 92 126 129 7 5 (.array .int) = true := by decide +kernel
theorem zd92_129 : zDc 92 129 131 (Int32.ofNat 6) = true := by decide +kernel
theorem zd92_131 : zDc 92 131 133 (Int32.ofNat 528734635) = true := by decide +kernel
theorem zd92_133 : zD 92 133 .iastore 1 134 = true := by decide +kernel
theorem zd92_134 : zD 92 134 (.aload_n 0) 1 135 = true := by decide +kernel
theorem zd92_135 : zDg 92 135 138 7 5 (.array .int) = true := by decide +kernel
theorem zd92_138 : zDc 92 138 140 (Int32.ofNat 7) = true := by decide +kernel
theorem zd92_140 : zDc 92 140 142 (Int32.ofNat 1541459225) = true := by decide +kernel
theorem zd92_142 : zD 92 142 .iastore 1 143 = true := by decide +kernel
theorem zd92_143 : zDc 92 143 144 (Int32.ofNat 0) = true := by decide +kernel
theorem zd92_144 : zD 92 144 (.istore_n 2) 1 145 = true := by decide +kernel
theorem zd92_145 : zD 92 145 (.iload_n 2) 1 146 = true := by decide +kernel
theorem zd92_146 : zD 92 146 (.aload_n 0) 1 147 = true := by decide +kernel
theorem zd92_147 : zDg 92 147 150 7 2 (.int) = true := by decide +kernel
theorem zd92_150 : zDm 92 150 .ge 164 153 = true := by decide +kernel
theorem zd92_153 : zD 92 153 (.aload_n 0) 1 154 = true := by decide +kernel
theorem zd92_154 : zD 92 154 (.iload_n 2) 1 155 = true := by decide +kernel
theorem zd92_155 : zDk 92 155 158 93 0 = true := by decide +kernel
theorem zd92_158 : zDi 92 158 161 2 (Int32.ofNat 64) = true := by decide +kernel
theorem zd92_161 : zDj 92 161 145 = true := by decide +kernel
theorem zd92_164 : zDc 92 164 165 (Int32.ofNat 0) = true := by decide +kernel
theorem zd92_165 : zD 92 165 (.istore_n 2) 1 166 = true := by decide +kernel
theorem zd92_166 : zD 92 166 (.iload_n 2) 1 167 = true := by decide +kernel
theorem zd92_167 : zDc 92 167 169 (Int32.ofNat 32) = true := by decide +kernel
theorem zd92_169 : zDm 92 169 .ge 206 172 = true := by decide +kernel
theorem zd92_172 : zD 92 172 (.aload_n 0) 1 173 = true := by decide +kernel
theorem zd92_173 : zDg 92 173 176 7 7 (.array .int) = true := by decide +kernel
theorem zd92_176 : zD 92 176 (.iload_n 2) 1 177 = true := by decide +kernel
theorem zd92_177 : zD 92 177 (.aload_n 0) 1 178 = true := by decide +kernel
theorem zd92_178 : zDg 92 178 181 7 5 (.array .int) = true := by decide +kernel
theorem zd92_181 : zD 92 181 (.iload_n 2) 1 182 = true := by decide +kernel
theorem zd92_182 : zDc 92 182 183 (Int32.ofNat 4) = true := by decide +kernel
theorem zd92_183 : zD 92 183 .idiv 1 184 = true := by decide +kernel
theorem zd92_184 : zD 92 184 .iaload 1 185 = true := by decide +kernel
theorem zd92_185 : zDc 92 185 187 (Int32.ofNat 24) = true := by decide +kernel
theorem zd92_187 : zDc 92 187 189 (Int32.ofNat 8) = true := by decide +kernel
theorem zd92_189 : zD 92 189 (.iload_n 2) 1 190 = true := by decide +kernel
theorem zd92_190 : zDc 92 190 191 (Int32.ofNat 4) = true := by decide +kernel
theorem zd92_191 : zD 92 191 .irem 1 192 = true := by decide +kernel
theorem zd92_192 : zD 92 192 .imul 1 193 = true := by decide +kernel
theorem zd92_193 : zD 92 193 .isub 1 194 = true := by decide +kernel
theorem zd92_194 : zD 92 194 .ishr 1 195 = true := by decide +kernel
theorem zd92_195 : zDc 92 195 198 (Int32.ofNat 255) = true := by decide +kernel
theorem zd92_198 : zD 92 198 .iand 1 199 = true := by decide +kernel
theorem zd92_199 : zD 92 199 .iastore 1 200 = true := by decide +kernel
theorem zd92_200 : zDi 92 200 203 2 (Int32.ofNat 1) = true := by decide +kernel
theorem zd92_203 : zDj 92 203 166 = true := by decide +kernel
theorem zd92_206 : zD 92 206 (.aload_n 0) 1 207 = true := by decide +kernel
theorem zd92_207 : zDc 92 207 208 (Int32.ofNat 0) = true := by decide +kernel
theorem zd92_208 : zDp 92 208 211 7 2 (.int) = true := by decide +kernel
theorem zd92_211 : zD 92 211 .return_ 1 212 = true := by decide +kernel
theorem zd93_0 : zDc 93 0 1 (Int32.ofNat 0) = true := by decide +kernel
theorem zd93_1 : zD 93 1 (.istore_n 2) 1 2 = true := by decide +kernel
theorem zd93_2 : zD 93 2 (.iload_n 2) 1 3 = true := by decide +kernel
theorem zd93_3 : zDc 93 3 5 (Int32.ofNat 16) = true := by decide +kernel
theorem zd93_5 : zDm 93 5 .ge 68 8 = true := by decide +kernel
theorem zd93_8 : zD 93 8 (.iload_n 1) 1 9 = true := by decide +kernel
theorem zd93_9 : zDc 93 9 10 (Int32.ofNat 4) = true := by decide +kernel
theorem zd93_10 : zD 93 10 (.iload_n 2) 1 11 = true := by decide +kernel
theorem zd93_11 : zD 93 11 .imul 1 12 = true := by decide +kernel
theorem zd93_12 : zD 93 12 .iadd 1 13 = true := by decide +kernel
theorem zd93_13 : zD 93 13 (.istore_n 3) 1 14 = true := by decide +kernel
theorem zd93_14 : zD 93 14 (.aload_n 0) 1 15 = true := by decide +kernel
theorem zd93_15 : zDg 93 15 18 7 4 (.array .int) = true := by decide +kernel
theorem zd93_18 : zD 93 18 (.iload_n 2) 1 19 = true := by decide +kernel
theorem zd93_19 : zD 93 19 (.aload_n 0) 1 20 = true := by decide +kernel
theorem zd93_20 : zDg 93 20 23 7 3 (.array .int) = true := by decide +kernel
theorem zd93_23 : zD 93 23 (.iload_n 3) 1 24 = true := by decide +kernel
theorem zd93_24 : zD 93 24 .iaload 1 25 = true := by decide +kernel
theorem zd93_25 : zDc 93 25 27 (Int32.ofNat 24) = true := by decide +kernel
theorem zd93_27 : zD 93 27 .ishl 1 28 = true := by decide +kernel
theorem zd93_28 : zD 93 28 (.aload_n 0) 1 29 = true := by decide +kernel
theorem zd93_29 : zDg 93 29 32 7 3 (.array .int) = true := by decide +kernel
theorem zd93_32 : zD 93 32 (.iload_n 3) 1 33 = true := by decide +kernel
theorem zd93_33 : zDc 93 33 34 (Int32.ofNat 1) = true := by decide +kernel
theorem zd93_34 : zD 93 34 .iadd 1 35 = true := by decide +kernel
theorem zd93_35 : zD 93 35 .iaload 1 36 = true := by decide +kernel
theorem zd93_36 : zDc 93 36 38 (Int32.ofNat 16) = true := by decide +kernel
theorem zd93_38 : zD 93 38 .ishl 1 39 = true := by decide +kernel
theorem zd93_39 : zD 93 39 .ior 1 40 = true := by decide +kernel
theorem zd93_40 : zD 93 40 (.aload_n 0) 1 41 = true := by decide +kernel
theorem zd93_41 : zDg 93 41 44 7 3 (.array .int) = true := by decide +kernel
theorem zd93_44 : zD 93 44 (.iload_n 3) 1 45 = true := by decide +kernel
theorem zd93_45 : zDc 93 45 46 (Int32.ofNat 2) = true := by decide +kernel
theorem zd93_46 : zD 93 46 .iadd 1 47 = true := by decide +kernel
theorem zd93_47 : zD 93 47 .iaload 1 48 = true := by decide +kernel
theorem zd93_48 : zDc 93 48 50 (Int32.ofNat 8) = true := by decide +kernel
theorem zd93_50 : zD 93 50 .ishl 1 51 = true := by decide +kernel
theorem zd93_51 : zD 93 51 .ior 1 52 = true := by decide +kernel
theorem zd93_52 : zD 93 52 (.aload_n 0) 1 53 = true := by decide +kernel
theorem zd93_53 : zDg 93 53 56 7 3 (.array .int) = true := by decide +kernel
theorem zd93_56 : zD 93 56 (.iload_n 3) 1 57 = true := by decide +kernel
theorem zd93_57 : zDc 93 57 58 (Int32.ofNat 3) = true := by decide +kernel
theorem zd93_58 : zD 93 58 .iadd 1 59 = true := by decide +kernel
theorem zd93_59 : zD 93 59 .iaload 1 60 = true := by decide +kernel
theorem zd93_60 : zD 93 60 .ior 1 61 = true := by decide +kernel
theorem zd93_61 : zD 93 61 .iastore 1 62 = true := by decide +kernel
theorem zd93_62 : zDi 93 62 65 2 (Int32.ofNat 1) = true := by decide +kernel
theorem zd93_65 : zDj 93 65 2 = true := by decide +kernel
theorem zd93_68 : zDc 93 68 70 (Int32.ofNat 16) = true := by decide +kernel
theorem zd93_70 : zD 93 70 (.istore_n 2) 1 71 = true := by decide +kernel
theorem zd93_71 : zD 93 71 (.iload_n 2) 1 72 = true := by decide +kernel
theorem zd93_72 : zDc 93 72 74 (Int32.ofNat 64) = true := by decide +kernel
theorem zd93_74 : zDm 93 74 .ge 176 77 = true := by decide +kernel
theorem zd93_77 : zD 93 77 (.aload_n 0) 1 78 = true := by decide +kernel
theorem zd93_78 : zDg 93 78 81 7 4 (.array .int) = true := by decide +kernel
theorem zd93_81 : zD 93 81 (.iload_n 2) 1 82 = true := by decide +kernel
theorem zd93_82 : zDc 93 82 84 (Int32.ofNat 15) = true := by decide +kernel
theorem zd93_84 : zD 93 84 .isub 1 85 = true := by decide +kernel
theorem zd93_85 : zD 93 85 .iaload 1 86 = true := by decide +kernel
theorem zd93_86 : zD 93 86 (.istore_n 3) 1 87 = true := by decide +kernel
theorem zd93_87 : zD 93 87 (.aload_n 0) 1 88 = true := by decide +kernel
theorem zd93_88 : zDg 93 88 91 7 4 (.array .int) = true := by decide +kernel
theorem zd93_91 : zD 93 91 (.iload_n 2) 1 92 = true := by decide +kernel
theorem zd93_92 : zDc 93 92 93 (Int32.ofNat 2) = true := by decide +kernel
theorem zd93_93 : zD 93 93 .isub 1 94 = true := by decide +kernel
theorem zd93_94 : zD 93 94 .iaload 1 95 = true := by decide +kernel
theorem zd93_95 : zD 93 95 (.istore 4) 2 97 = true := by decide +kernel
theorem zd93_97 : zD 93 97 (.iload_n 3) 1 98 = true := by decide +kernel
theorem zd93_98 : zDc 93 98 100 (Int32.ofNat 7) = true := by decide +kernel
theorem zd93_100 : zDk 93 100 103 94 2 = true := by decide +kernel
theorem zd93_103 : zD 93 103 (.iload_n 3) 1 104 = true := by decide +kernel
theorem zd93_104 : zDc 93 104 106 (Int32.ofNat 18) = true := by decide +kernel
theorem zd93_106 : zDk 93 106 109 94 2 = true := by decide +kernel
theorem zd93_109 : zD 93 109 .ixor 1 110 = true := by decide +kernel
theorem zd93_110 : zD 93 110 (.iload_n 3) 1 111 = true := by decide +kernel
theorem zd93_111 : zDc 93 111 112 (Int32.ofNat 3) = true := by decide +kernel
theorem zd93_112 : zD 93 112 .iushr 1 113 = true := by decide +kernel
theorem zd93_113 : zD 93 113 .ixor 1 114 = true := by decide +kernel
theorem zd93_114 : zD 93 114 (.istore 5) 2 116 = true := by decide +kernel
theorem zd93_116 : zD 93 116 (.iload 4) 2 118 = true := by decide +kernel
theorem zd93_118 : zDc 93 118 120 (Int32.ofNat 17) = true := by decide +kernel
theorem zd93_120 : zDk 93 120 123 94 2 = true := by decide +kernel
theorem zd93_123 : zD 93 123 (.iload 4) 2 125 = true := by decide +kernel
theorem zd93_125 : zDc 93 125 127 (Int32.ofNat 19) = true := by decide +kernel
theorem zd93_127 : zDk 93 127 130 94 2 = true := by decide +kernel
theorem zd93_130 : zD 93 130 .ixor 1 131 = true := by decide +kernel
theorem zd93_131 : zD 93 131 (.iload 4) 2 133 = true := by decide +kernel
theorem zd93_133 : zDc 93 133 135 (Int32.ofNat 10) = true := by decide +kernel
theorem zd93_135 : zD 93 135 .iushr 1 136 = true := by decide +kernel
theorem zd93_136 : zD 93 136 .ixor 1 137 = true := by decide +kernel
theorem zd93_137 : zD 93 137 (.istore 6) 2 139 = true := by decide +kernel
theorem zd93_139 : zD 93 139 (.aload_n 0) 1 140 = true := by decide +kernel
theorem zd93_140 : zDg 93 140 143 7 4 (.array .int) = true := by decide +kernel
theorem zd93_143 : zD 93 143 (.iload_n 2) 1 144 = true := by decide +kernel
theorem zd93_144 : zD 93 144 (.aload_n 0) 1 145 = true := by decide +kernel
theorem zd93_145 : zDg 93 145 148 7 4 (.array .int) = true := by decide +kernel
theorem zd93_148 : zD 93 148 (.iload_n 2) 1 149 = true := by decide +kernel
theorem zd93_149 : zDc 93 149 151 (Int32.ofNat 16) = true := by decide +kernel
theorem zd93_151 : zD 93 151 .isub 1 152 = true := by decide +kernel
theorem zd93_152 : zD 93 152 .iaload 1 153 = true := by decide +kernel
theorem zd93_153 : zD 93 153 (.iload 5) 2 155 = true := by decide +kernel
theorem zd93_155 : zD 93 155 .iadd 1 156 = true := by decide +kernel
theorem zd93_156 : zD 93 156 (.aload_n 0) 1 157 = true := by decide +kernel
theorem zd93_157 : zDg 93 157 160 7 4 (.array .int) = true := by decide +kernel
theorem zd93_160 : zD 93 160 (.iload_n 2) 1 161 = true := by decide +kernel
theorem zd93_161 : zDc 93 161 163 (Int32.ofNat 7) = true := by decide +kernel
theorem zd93_163 : zD 93 163 .isub 1 164 = true := by decide +kernel
theorem zd93_164 : zD 93 164 .iaload 1 165 = true := by decide +kernel
theorem zd93_165 : zD 93 165 .iadd 1 166 = true := by decide +kernel
theorem zd93_166 : zD 93 166 (.iload 6) 2 168 = true := by decide +kernel
theorem zd93_168 : zD 93 168 .iadd 1 169 = true := by decide +kernel
theorem zd93_169 : zD 93 169 .iastore 1 170 = true := by decide +kernel
theorem zd93_170 : zDi 93 170 173 2 (Int32.ofNat 1) = true := by decide +kernel
theorem zd93_173 : zDj 93 173 71 = true := by decide +kernel
theorem zd93_176 : zDc 93 176 177 (Int32.ofNat 0) = true := by decide +kernel
theorem zd93_177 : zD 93 177 (.istore_n 2) 1 178 = true := by decide +kernel
theorem zd93_178 : zD 93 178 (.iload_n 2) 1 179 = true := by decide +kernel
theorem zd93_179 : zDc 93 179 181 (Int32.ofNat 8) = true := by decide +kernel
theorem zd93_181 : zDm 93 181 .ge 202 184 = true := by decide +kernel
theorem zd93_184 : zD 93 184 (.aload_n 0) 1 185 = true := by decide +kernel
theorem zd93_185 : zDg 93 185 188 7 6 (.array .int) = true := by decide +kernel
theorem zd93_188 : zD 93 188 (.iload_n 2) 1 189 = true := by decide +kernel
theorem zd93_189 : zD 93 189 (.aload_n 0) 1 190 = true := by decide +kernel
theorem zd93_190 : zDg 93 190 193 7 5 (.array .int) = true := by decide +kernel
theorem zd93_193 : zD 93 193 (.iload_n 2) 1 194 = true := by decide +kernel
theorem zd93_194 : zD 93 194 .iaload 1 195 = true := by decide +kernel
theorem zd93_195 : zD 93 195 .iastore 1 196 = true := by decide +kernel
theorem zd93_196 : zDi 93 196 199 2 (Int32.ofNat 1) = true := by decide +kernel
theorem zd93_199 : zDj 93 199 178 = true := by decide +kernel
theorem zd93_202 : zDc 93 202 203 (Int32.ofNat 0) = true := by decide +kernel
theorem zd93_203 : zD 93 203 (.istore_n 2) 1 204 = true := by decide +kernel
theorem zd93_204 : zD 93 204 (.iload_n 2) 1 205 = true := by decide +kernel
theorem zd93_205 : zDc 93 205 207 (Int32.ofNat 64) = true := by decide +kernel
theorem zd93_207 : zDm 93 207 .ge 419 210 = true := by decide +kernel
theorem zd93_210 : zD 93 210 (.aload_n 0) 1 211 = true := by decide +kernel
theorem zd93_211 : zDg 93 211 214 7 6 (.array .int) = true := by decide +kernel
theorem zd93_214 : zDc 93 214 215 (Int32.ofNat 4) = true := by decide +kernel
theorem zd93_215 : zD 93 215 .iaload 1 216 = true := by decide +kernel
theorem zd93_216 : zD 93 216 (.istore_n 3) 1 217 = true := by decide +kernel
theorem zd93_217 : zD 93 217 (.aload_n 0) 1 218 = true := by decide +kernel
theorem zd93_218 : zDg 93 218 221 7 6 (.array .int) = true := by decide +kernel
theorem zd93_221 : zDc 93 221 222 (Int32.ofNat 0) = true := by decide +kernel
theorem zd93_222 : zD 93 222 .iaload 1 223 = true := by decide +kernel
theorem zd93_223 : zD 93 223 (.istore 4) 2 225 = true := by decide +kernel
theorem zd93_225 : zD 93 225 (.iload_n 3) 1 226 = true := by decide +kernel
theorem zd93_226 : zDc 93 226 228 (Int32.ofNat 6) = true := by decide +kernel
theorem zd93_228 : zDk 93 228 231 94 2 = true := by decide +kernel
theorem zd93_231 : zD 93 231 (.iload_n 3) 1 232 = true := by decide +kernel
theorem zd93_232 : zDc 93 232 234 (Int32.ofNat 11) = true := by decide +kernel
theorem zd93_234 : zDk 93 234 237 94 2 = true := by decide +kernel
theorem zd93_237 : zD 93 237 .ixor 1 238 = true := by decide +kernel
theorem zd93_238 : zD 93 238 (.iload_n 3) 1 239 = true := by decide +kernel
theorem zd93_239 : zDc 93 239 241 (Int32.ofNat 25) = true := by decide +kernel
theorem zd93_241 : zDk 93 241 244 94 2 = true := by decide +kernel
theorem zd93_244 : zD 93 244 .ixor 1 245 = true := by decide +kernel
theorem zd93_245 : zD 93 245 (.istore 5) 2 247 = true := by decide +kernel
theorem zd93_247 : zD 93 247 (.iload_n 3) 1 248 = true := by decide +kernel
theorem zd93_248 : zD 93 248 (.aload_n 0) 1 249 = true := by decide +kernel
theorem zd93_249 : zDg 93 249 252 7 6 (.array .int) = true := by decide +kernel
theorem zd93_252 : zDc 93 252 253 (Int32.ofNat 5) = true := by decide +kernel
theorem zd93_253 : zD 93 253 .iaload 1 254 = true := by decide +kernel
theorem zd93_254 : zD 93 254 .iand 1 255 = true := by decide +kernel
theorem zd93_255 : zD 93 255 (.iload_n 3) 1 256 = true := by decide +kernel
theorem zd93_256 : zDc 93 256 257 (-1) = true := by decide +kernel
theorem zd93_257 : zD 93 257 .ixor 1 258 = true := by decide +kernel
theorem zd93_258 : zD 93 258 (.aload_n 0) 1 259 = true := by decide +kernel
theorem zd93_259 : zDg 93 259 262 7 6 (.array .int) = true := by decide +kernel
theorem zd93_262 : zDc 93 262 264 (Int32.ofNat 6) = true := by decide +kernel
theorem zd93_264 : zD 93 264 .iaload 1 265 = true := by decide +kernel
theorem zd93_265 : zD 93 265 .iand 1 266 = true := by decide +kernel
theorem zd93_266 : zD 93 266 .ixor 1 267 = true := by decide +kernel
theorem zd93_267 : zD 93 267 (.istore 6) 2 269 = true := by decide +kernel
theorem zd93_269 : zD 93 269 (.aload_n 0) 1 270 = true := by decide +kernel
theorem zd93_270 : zDg 93 270 273 7 6 (.array .int) = true := by decide +kernel
theorem zd93_273 : zDc 93 273 275 (Int32.ofNat 7) = true := by decide +kernel
theorem zd93_275 : zD 93 275 .iaload 1 276 = true := by decide +kernel
theorem zd93_276 : zD 93 276 (.iload 5) 2 278 = true := by decide +kernel
theorem zd93_278 : zD 93 278 .iadd 1 279 = true := by decide +kernel
theorem zd93_279 : zD 93 279 (.iload 6) 2 281 = true := by decide +kernel
theorem zd93_281 : zD 93 281 .iadd 1 282 = true := by decide +kernel
theorem zd93_282 : zD 93 282 (.aload_n 0) 1 283 = true := by decide +kernel
theorem zd93_283 : zDg 93 283 286 7 1 (.array .int) = true := by decide +kernel
theorem zd93_286 : zD 93 286 (.iload_n 2) 1 287 = true := by decide +kernel
theorem zd93_287 : zD 93 287 .iaload 1 288 = true := by decide +kernel
theorem zd93_288 : zD 93 288 .iadd 1 289 = true := by decide +kernel
theorem zd93_289 : zD 93 289 (.aload_n 0) 1 290 = true := by decide +kernel
theorem zd93_290 : zDg 93 290 293 7 4 (.array .int) = true := by decide +kernel
theorem zd93_293 : zD 93 293 (.iload_n 2) 1 294 = true := by decide +kernel
theorem zd93_294 : zD 93 294 .iaload 1 295 = true := by decide +kernel
theorem zd93_295 : zD 93 295 .iadd 1 296 = true := by decide +kernel
theorem zd93_296 : zD 93 296 (.istore 7) 2 298 = true := by decide +kernel
theorem zd93_298 : zD 93 298 (.iload 4) 2 300 = true := by decide +kernel
theorem zd93_300 : zDc 93 300 301 (Int32.ofNat 2) = true := by decide +kernel
theorem zd93_301 : zDk 93 301 304 94 2 = true := by decide +kernel
theorem zd93_304 : zD 93 304 (.iload 4) 2 306 = true := by decide +kernel
theorem zd93_306 : zDc 93 306 308 (Int32.ofNat 13) = true := by decide +kernel
theorem zd93_308 : zDk 93 308 311 94 2 = true := by decide +kernel
theorem zd93_311 : zD 93 311 .ixor 1 312 = true := by decide +kernel
theorem zd93_312 : zD 93 312 (.iload 4) 2 314 = true := by decide +kernel
theorem zd93_314 : zDc 93 314 316 (Int32.ofNat 22) = true := by decide +kernel
theorem zd93_316 : zDk 93 316 319 94 2 = true := by decide +kernel
theorem zd93_319 : zD 93 319 .ixor 1 320 = true := by decide +kernel
theorem zd93_320 : zD 93 320 (.istore 8) 2 322 = true := by decide +kernel
theorem zd93_322 : zD 93 322 (.iload 4) 2 324 = true := by decide +kernel
theorem zd93_324 : zD 93 324 (.aload_n 0) 1 325 = true := by decide +kernel
theorem zd93_325 : zDg 93 325 328 7 6 (.array .int) = true := by decide +kernel
theorem zd93_328 : zDc 93 328 329 (Int32.ofNat 1) = true := by decide +kernel
theorem zd93_329 : zD 93 329 .iaload 1 330 = true := by decide +kernel
theorem zd93_330 : zD 93 330 .iand 1 331 = true := by decide +kernel
theorem zd93_331 : zD 93 331 (.iload 4) 2 333 = true := by decide +kernel
theorem zd93_333 : zD 93 333 (.aload_n 0) 1 334 = true := by decide +kernel
theorem zd93_334 : zDg 93 334 337 7 6 (.array .int) = true := by decide +kernel
theorem zd93_337 : zDc 93 337 338 (Int32.ofNat 2) = true := by decide +kernel
theorem zd93_338 : zD 93 338 .iaload 1 339 = true := by decide +kernel
theorem zd93_339 : zD 93 339 .iand 1 340 = true := by decide +kernel
theorem zd93_340 : zD 93 340 .ixor 1 341 = true := by decide +kernel
theorem zd93_341 : zD 93 341 (.aload_n 0) 1 342 = true := by decide +kernel
theorem zd93_342 : zDg 93 342 345 7 6 (.array .int) = true := by decide +kernel
theorem zd93_345 : zDc 93 345 346 (Int32.ofNat 1) = true := by decide +kernel
theorem zd93_346 : zD 93 346 .iaload 1 347 = true := by decide +kernel
theorem zd93_347 : zD 93 347 (.aload_n 0) 1 348 = true := by decide +kernel
theorem zd93_348 : zDg 93 348 351 7 6 (.array .int) = true := by decide +kernel
theorem zd93_351 : zDc 93 351 352 (Int32.ofNat 2) = true := by decide +kernel
theorem zd93_352 : zD 93 352 .iaload 1 353 = true := by decide +kernel
theorem zd93_353 : zD 93 353 .iand 1 354 = true := by decide +kernel
theorem zd93_354 : zD 93 354 .ixor 1 355 = true := by decide +kernel
theorem zd93_355 : zD 93 355 (.istore 9) 2 357 = true := by decide +kernel
theorem zd93_357 : zDc 93 357 359 (Int32.ofNat 7) = true := by decide +kernel
theorem zd93_359 : zD 93 359 (.istore 10) 2 361 = true := by decide +kernel
theorem zd93_361 : zD 93 361 (.iload 10) 2 363 = true := by decide +kernel
theorem zd93_363 : zDf 93 363 .le 388 366 = true := by decide +kernel
theorem zd93_366 : zD 93 366 (.aload_n 0) 1 367 = true := by decide +kernel
theorem zd93_367 : zDg 93 367 370 7 6 (.array .int) = true := by decide +kernel
theorem zd93_370 : zD 93 370 (.iload 10) 2 372 = true := by decide +kernel
theorem zd93_372 : zD 93 372 (.aload_n 0) 1 373 = true := by decide +kernel
theorem zd93_373 : zDg 93 373 376 7 6 (.array .int) = true := by decide +kernel
theorem zd93_376 : zD 93 376 (.iload 10) 2 378 = true := by decide +kernel
theorem zd93_378 : zDc 93 378 379 (Int32.ofNat 1) = true := by decide +kernel
theorem zd93_379 : zD 93 379 .isub 1 380 = true := by decide +kernel
theorem zd93_380 : zD 93 380 .iaload 1 381 = true := by decide +kernel
theorem zd93_381 : zD 93 381 .iastore 1 382 = true := by decide +kernel
theorem zd93_382 : zDi 93 382 385 10 (-(Int32.ofNat 1)) = true := by decide +kernel
theorem zd93_385 : zDj 93 385 361 = true := by decide +kernel
theorem zd93_388 : zD 93 388 (.aload_n 0) 1 389 = true := by decide +kernel
theorem zd93_389 : zDg 93 389 392 7 6 (.array .int) = true := by decide +kernel
theorem zd93_392 : zDc 93 392 393 (Int32.ofNat 4) = true := by decide +kernel
theorem zd93_393 : zD 93 393 .dup2 1 394 = true := by decide +kernel
theorem zd93_394 : zD 93 394 .iaload 1 395 = true := by decide +kernel
theorem zd93_395 : zD 93 395 (.iload 7) 2 397 = true := by decide +kernel
theorem zd93_397 : zD 93 397 .iadd 1 398 = true := by decide +kernel
theorem zd93_398 : zD 93 398 .iastore 1 399 = true := by decide +kernel
theorem zd93_399 : zD 93 399 (.aload_n 0) 1 400 = true := by decide +kernel
theorem zd93_400 : zDg 93 400 403 7 6 (.array .int) = true := by decide +kernel
theorem zd93_403 : zDc 93 403 404 (Int32.ofNat 0) = true := by decide +kernel
theorem zd93_404 : zD 93 404 (.iload 7) 2 406 = true := by decide +kernel
theorem zd93_406 : zD 93 406 (.iload 8) 2 408 = true := by decide +kernel
theorem zd93_408 : zD 93 408 .iadd 1 409 = true := by decide +kernel
theorem zd93_409 : zD 93 409 (.iload 9) 2 411 = true := by decide +kernel
theorem zd93_411 : zD 93 411 .iadd 1 412 = true := by decide +kernel
theorem zd93_412 : zD 93 412 .iastore 1 413 = true := by decide +kernel
theorem zd93_413 : zDi 93 413 416 2 (Int32.ofNat 1) = true := by decide +kernel
theorem zd93_416 : zDj 93 416 204 = true := by decide +kernel
theorem zd93_419 : zDc 93 419 420 (Int32.ofNat 0) = true := by decide +kernel
theorem zd93_420 : zD 93 420 (.istore_n 2) 1 421 = true := by decide +kernel
theorem zd93_421 : zD 93 421 (.iload_n 2) 1 422 = true := by decide +kernel
theorem zd93_422 : zDc 93 422 424 (Int32.ofNat 8) = true := by decide +kernel
theorem zd93_424 : zDm 93 424 .ge 448 427 = true := by decide +kernel
theorem zd93_427 : zD 93 427 (.aload_n 0) 1 428 = true := by decide +kernel
theorem zd93_428 : zDg 93 428 431 7 5 (.array .int) = true := by decide +kernel
theorem zd93_431 : zD 93 431 (.iload_n 2) 1 432 = true := by decide +kernel
theorem zd93_432 : zD 93 432 .dup2 1 433 = true := by decide +kernel
theorem zd93_433 : zD 93 433 .iaload 1 434 = true := by decide +kernel
theorem zd93_434 : zD 93 434 (.aload_n 0) 1 435 = true := by decide +kernel
theorem zd93_435 : zDg 93 435 438 7 6 (.array .int) = true := by decide +kernel
theorem zd93_438 : zD 93 438 (.iload_n 2) 1 439 = true := by decide +kernel
theorem zd93_439 : zD 93 439 .iaload 1 440 = true := by decide +kernel
theorem zd93_440 : zD 93 440 .iadd 1 441 = true := by decide +kernel
theorem zd93_441 : zD 93 441 .iastore 1 442 = true := by decide +kernel
theorem zd93_442 : zDi 93 442 445 2 (Int32.ofNat 1) = true := by decide +kernel
theorem zd93_445 : zDj 93 445 421 = true := by decide +kernel
theorem zd93_448 : zD 93 448 .return_ 1 449 = true := by decide +kernel
theorem zd94_0 : zD 94 0 (.iload_n 0) 1 1 = true := by decide +kernel
theorem zd94_1 : zD 94 1 (.iload_n 1) 1 2 = true := by decide +kernel
theorem zd94_2 : zD 94 2 .iushr 1 3 = true := by decide +kernel
theorem zd94_3 : zD 94 3 (.iload_n 0) 1 4 = true := by decide +kernel
theorem zd94_4 : zDc 94 4 6 (Int32.ofNat 32) = true := by decide +kernel
theorem zd94_6 : zD 94 6 (.iload_n 1) 1 7 = true := by decide +kernel
theorem zd94_7 : zD 94 7 .isub 1 8 = true := by decide +kernel
theorem zd94_8 : zD 94 8 .ishl 1 9 = true := by decide +kernel
theorem zd94_9 : zD 94 9 .ior 1 10 = true := by decide +kernel
theorem zd94_10 : zD 94 10 .ireturn 1 11 = true := by decide +kernel
theorem zd95_0 : zD 95 0 (.aload_n 0) 1 1 = true := by decide +kernel
theorem zd95_1 : zD 95 1 (.aload_n 0) 1 2 = true := by decide +kernel
theorem zd95_2 : zDg 95 2 5 7 9 (.array .int) = true := by decide +kernel
theorem zd95_5 : zD 95 5 (.iload_n 1) 1 6 = true := by decide +kernel
theorem zd95_6 : zD 95 6 .iaload 1 7 = true := by decide +kernel
theorem zd95_7 : zDp 95 7 10 7 15 (.int) = true := by decide +kernel
theorem zd95_10 : zDc 95 10 11 (Int32.ofNat 0) = true := by decide +kernel
theorem zd95_11 : zD 95 11 (.istore_n 2) 1 12 = true := by decide +kernel
theorem zd95_12 : zD 95 12 (.iload_n 2) 1 13 = true := by decide +kernel
theorem zd95_13 : zDc 95 13 15 (Int32.ofNat 32) = true := by decide +kernel
theorem zd95_15 : zD 95 15 (.aload_n 0) 1 16 = true := by decide +kernel
theorem zd95_16 : zDg 95 16 19 7 15 (.int) = true := by decide +kernel
theorem zd95_19 : zD 95 19 .imul 1 20 = true := by decide +kernel
theorem zd95_20 : zDm 95 20 .ge 47 23 = true := by decide +kernel
theorem zd95_23 : zD 95 23 (.aload_n 0) 1 24 = true := by decide +kernel
theorem zd95_24 : zDg 95 24 27 7 16 (.array .int) = true := by decide +kernel
theorem zd95_27 : zD 95 27 (.iload_n 2) 1 28 = true := by decide +kernel
theorem zd95_28 : zD 95 28 (.aload_n 0) 1 29 = true := by decide +kernel
theorem zd95_29 : zDg 95 29 32 7 13 (.array .int) = true := by decide +kernel
theorem zd95_32 : zDc 95 32 35 (Int32.ofNat 256) = true := by decide +kernel
theorem zd95_35 : zD 95 35 (.iload_n 1) 1 36 = true := by decide +kernel
theorem zd95_36 : zD 95 36 .imul 1 37 = true := by decide +kernel
theorem zd95_37 : zD 95 37 (.iload_n 2) 1 38 = true := by decide +kernel
theorem zd95_38 : zD 95 38 .iadd 1 39 = true := by decide +kernel
theorem zd95_39 : zD 95 39 .iaload 1 40 = true := by decide +kernel
theorem zd95_40 : zD 95 40 .iastore 1 41 = true := by decide +kernel
theorem zd95_41 : zDi 95 41 44 2 (Int32.ofNat 1) = true := by decide +kernel
theorem zd95_44 : zDj 95 44 12 = true := by decide +kernel
theorem zd95_47 : zD 95 47 .return_ 1 48 = true := by decide +kernel
theorem zd96_0 : zDc 96 0 1 (Int32.ofNat 0) = true := by decide +kernel
theorem zd96_1 : zD 96 1 (.istore_n 1) 1 2 = true := by decide +kernel
theorem zd96_2 : zD 96 2 (.iload_n 1) 1 3 = true := by decide +kernel
theorem zd96_3 : zD 96 3 (.aload_n 0) 1 4 = true := by decide +kernel
theorem zd96_4 : zDg 96 4 7 7 15 (.int) = true := by decide +kernel
theorem zd96_7 : zDm 96 7 .ge 132 10 = true := by decide +kernel
theorem zd96_10 : zD 96 10 (.iload_n 1) 1 11 = true := by decide +kernel
theorem zd96_11 : zDc 96 11 12 (Int32.ofNat 1) = true := by decide +kernel
theorem zd96_12 : zD 96 12 .iadd 1 13 = true := by decide +kernel
theorem zd96_13 : zD 96 13 (.aload_n 0) 1 14 = true := by decide +kernel
theorem zd96_14 : zDg 96 14 17 7 15 (.int) = true := by decide +kernel
theorem zd96_17 : zDm 96 17 .ne 59 20 = true := by decide +kernel
theorem zd96_20 : zDc 96 20 21 (Int32.ofNat 0) = true := by decide +kernel
theorem zd96_21 : zD 96 21 (.istore_n 2) 1 22 = true := by decide +kernel
theorem zd96_22 : zD 96 22 (.iload_n 2) 1 23 = true := by decide +kernel
theorem zd96_23 : zDc 96 23 25 (Int32.ofNat 32) = true := by decide +kernel
theorem zd96_25 : zDm 96 25 .ge 56 28 = true := by decide +kernel
theorem zd96_28 : zD 96 28 (.aload_n 0) 1 29 = true := by decide +kernel
theorem zd96_29 : zDg 96 29 32 7 16 (.array .int) = true := by decide +kernel
theorem zd96_32 : zDc 96 32 34 (Int32.ofNat 16) = true := by decide +kernel
theorem zd96_34 : zD 96 34 (.iload_n 1) 1 35 = true := by decide +kernel
theorem zd96_35 : zD 96 35 .imul 1 36 = true := by decide +kernel
theorem zd96_36 : zD 96 36 (.iload_n 2) 1 37 = true := by decide +kernel
theorem zd96_37 : zD 96 37 .iadd 1 38 = true := by decide +kernel
theorem zd96_38 : zD 96 38 (.aload_n 0) 1 39 = true := by decide +kernel
theorem zd96_39 : zDg 96 39 42 7 16 (.array .int) = true := by decide +kernel
theorem zd96_42 : zDc 96 42 44 (Int32.ofNat 32) = true := by decide +kernel
theorem zd96_44 : zD 96 44 (.iload_n 1) 1 45 = true := by decide +kernel
theorem zd96_45 : zD 96 45 .imul 1 46 = true := by decide +kernel
theorem zd96_46 : zD 96 46 (.iload_n 2) 1 47 = true := by decide +kernel
theorem zd96_47 : zD 96 47 .iadd 1 48 = true := by decide +kernel
theorem zd96_48 : zD 96 48 .iaload 1 49 = true := by decide +kernel
theorem zd96_49 : zD 96 49 .iastore 1 50 = true := by decide +kernel
theorem zd96_50 : zDi 96 50 53 2 (Int32.ofNat 1) = true := by decide +kernel
theorem zd96_53 : zDj 96 53 22 = true := by decide +kernel
theorem zd96_56 : zDj 96 56 126 = true := by decide +kernel
theorem zd96_59 : zD 96 59 (.aload_n 0) 1 60 = true := by decide +kernel
theorem zd96_60 : zDc 96 60 61 (Int32.ofNat 1) = true := by decide +kernel
theorem zd96_61 : zDk 96 61 64 91 0 = true := by decide +kernel
theorem zd96_64 : zD 96 64 (.aload_n 0) 1 65 = true := by decide +kernel
theorem zd96_65 : zD 96 65 (.aload_n 0) 1 66 = true := by decide +kernel
theorem zd96_66 : zDg 96 66 69 7 16 (.array .int) = true := by decide +kernel
theorem zd96_69 : zDc 96 69 71 (Int32.ofNat 32) = true := by decide +kernel
theorem zd96_71 : zD 96 71 (.iload_n 1) 1 72 = true := by decide +kernel
theorem zd96_72 : zD 96 72 .imul 1 73 = true := by decide +kernel
theorem zd96_73 : zDk 96 73 76 97 0 = true := by decide +kernel
theorem zd96_76 : zD 96 76 (.aload_n 0) 1 77 = true := by decide +kernel
theorem zd96_77 : zD 96 77 (.aload_n 0) 1 78 = true := by decide +kernel
theorem zd96_78 : zDg 96 78 81 7 16 (.array .int) = true := by decide +kernel
theorem zd96_81 : zDc 96 81 83 (Int32.ofNat 32) = true := by decide +kernel
theorem zd96_83 : zD 96 83 (.iload_n 1) 1 84 = true := by decide +kernel
theorem zd96_84 : zD 96 84 .imul 1 85 = true := by decide +kernel
theorem zd96_85 : zDc 96 85 87 (Int32.ofNat 32) = true := by decide +kernel
theorem zd96_87 : zD 96 87 .iadd 1 88 = true := by decide +kernel
theorem zd96_88 : zDk 96 88 91 97 0 = true := by decide +kernel
theorem zd96_91 : zD 96 91 (.aload_n 0) 1 92 = true := by decide +kernel
theorem zd96_92 : zDk 96 92 95 92 0 = true := by decide +kernel
theorem zd96_95 : zDc 96 95 96 (Int32.ofNat 0) = true := by decide +kernel
theorem zd96_96 : zD 96 96 (.istore_n 2) 1 97 = true := by decide +kernel
theorem zd96_97 : zD 96 97 (.iload_n 2) 1 98 = true := by decide +kernel
theorem zd96_98 : zDc 96 98 100 (Int32.ofNat 32) = true := by decide +kernel
theorem zd96_100 : zDm 96 100 .ge 126 103 = true := by decide +kernel
theorem zd96_103 : zD 96 103 (.aload_n 0) 1 104 = true := by decide +kernel
theorem zd96_104 : zDg 96 104 107 7 16 (.array .int) = true := by decide +kernel
theorem zd96_107 : zDc 96 107 109 (Int32.ofNat 16) = true := by decide +kernel
theorem zd96_109 : zD 96 109 (.iload_n 1) 1 110 = true := by decide +kernel
theorem zd96_110 : zD 96 110 .imul 1 111 = true := by decide +kernel
theorem zd96_111 : zD 96 111 (.iload_n 2) 1 112 = true := by decide +kernel
theorem zd96_112 : zD 96 112 .iadd 1 113 = true := by decide +kernel
theorem zd96_113 : zD 96 113 (.aload_n 0) 1 114 = true := by decide +kernel
theorem zd96_114 : zDg 96 114 117 7 7 (.array .int) = true := by decide +kernel
theorem zd96_117 : zD 96 117 (.iload_n 2) 1 118 = true := by decide +kernel
theorem zd96_118 : zD 96 118 .iaload 1 119 = true := by decide +kernel
theorem zd96_119 : zD 96 119 .iastore 1 120 = true := by decide +kernel
theorem zd96_120 : zDi 96 120 123 2 (Int32.ofNat 1) = true := by decide +kernel
theorem zd96_123 : zDj 96 123 97 = true := by decide +kernel
theorem zd96_126 : zDi 96 126 129 1 (Int32.ofNat 2) = true := by decide +kernel
theorem zd96_129 : zDj 96 129 2 = true := by decide +kernel
theorem zd96_132 : zD 96 132 (.aload_n 0) 1 133 = true := by decide +kernel
theorem zd96_133 : zD 96 133 (.aload_n 0) 1 134 = true := by decide +kernel
theorem zd96_134 : zDg 96 134 137 7 15 (.int) = true := by decide +kernel
theorem zd96_137 : zDc 96 137 138 (Int32.ofNat 1) = true := by decide +kernel
theorem zd96_138 : zD 96 138 .iadd 1 139 = true := by decide +kernel
theorem zd96_139 : zDc 96 139 140 (Int32.ofNat 2) = true := by decide +kernel
theorem zd96_140 : zD 96 140 .idiv 1 141 = true := by decide +kernel
theorem zd96_141 : zDp 96 141 144 7 15 (.int) = true := by decide +kernel
theorem zd96_144 : zD 96 144 .return_ 1 145 = true := by decide +kernel
theorem zd97_0 : zDc 97 0 1 (Int32.ofNat 0) = true := by decide +kernel
theorem zd97_1 : zD 97 1 (.istore_n 3) 1 2 = true := by decide +kernel
theorem zd97_2 : zD 97 2 (.iload_n 3) 1 3 = true := by decide +kernel
theorem zd97_3 : zDc 97 3 5 (Int32.ofNat 32) = true := by decide +kernel
theorem zd97_5 : zDm 97 5 .ge 23 8 = true := by decide +kernel
theorem zd97_8 : zD 97 8 (.aload_n 0) 1 9 = true := by decide +kernel
theorem zd97_9 : zD 97 9 (.aload_n 1) 1 10 = true := by decide +kernel
theorem zd97_10 : zD 97 10 (.iload_n 2) 1 11 = true := by decide +kernel
theorem zd97_11 : zD 97 11 (.iload_n 3) 1 12 = true := by decide +kernel
theorem zd97_12 : zD 97 12 .iadd 1 13 = true := by decide +kernel
theorem zd97_13 : zD 97 13 .iaload 1 14 = true := by decide +kernel
theorem zd97_14 : zDk 97 14 17 91 0 = true := by decide +kernel
theorem zd97_17 : zDi 97 17 20 3 (Int32.ofNat 1) = true := by decide +kernel
theorem zd97_20 : zDj 97 20 2 = true := by decide +kernel
theorem zd97_23 : zD 97 23 .return_ 1 24 = true := by decide +kernel
theorem zd98_0 : zD 98 0 (.aload_n 0) 1 1 = true := by decide +kernel
theorem zd98_1 : zDc 98 1 2 (Int32.ofNat 0) = true := by decide +kernel
theorem zd98_2 : zDp 98 2 5 7 0 (.int) = true := by decide +kernel
theorem zd98_5 : zD 98 5 (.aload_n 0) 1 6 = true := by decide +kernel
theorem zd98_6 : zDg 98 6 9 7 8 (.int) = true := by decide +kernel
theorem zd98_9 : zD 98 9 .ireturn 1 10 = true := by decide +kernel
theorem zd99_0 : zD 99 0 (.aload_n 0) 1 1 = true := by decide +kernel
theorem zd99_1 : zD 99 1 (.aload_n 0) 1 2 = true := by decide +kernel
theorem zd99_2 : zD 99 2 (.iload_n 1) 1 3 = true := by decide +kernel
theorem zd99_3 : zDk 99 3 6 100 0 = true := by decide +kernel
theorem zd99_6 : zDf 99 6 .eq 23 9 = true := by decide +kernel
theorem zd99_9 : zD 99 9 (.iload_n 2) 1 10 = true := by decide +kernel
theorem zd99_10 : zDf 99 10 .lt 23 13 = true := by decide +kernel
theorem zd99_13 : zD 99 13 (.iload_n 2) 1 14 = true := by decide +kernel
theorem zd99_14 : zDc 99 14 16 (Int32.ofNat 32) = true := by decide +kernel
theorem zd99_16 : zDm 99 16 .ge 23 19 = true := by decide +kernel
theorem zd99_19 : zDc 99 19 20 (Int32.ofNat 0) = true := by decide +kernel
theorem zd99_20 : zDj 99 20 24 = true := by decide +kernel
theorem zd99_23 : zDc 99 23 24 (Int32.ofNat 1) = true := by decide +kernel
theorem zd99_24 : zDp 99 24 27 7 0 (.int) = true := by decide +kernel
theorem zd99_27 : zD 99 27 (.aload_n 0) 1 28 = true := by decide +kernel
theorem zd99_28 : zDg 99 28 31 7 0 (.int) = true := by decide +kernel
theorem zd99_31 : zDf 99 31 .ne 48 34 = true := by decide +kernel
theorem zd99_34 : zD 99 34 (.aload_n 0) 1 35 = true := by decide +kernel
theorem zd99_35 : zDg 99 35 38 7 14 (.array .int) = true := by decide +kernel
theorem zd99_38 : zDc 99 38 40 (Int32.ofNat 32) = true := by decide +kernel
theorem zd99_40 : zD 99 40 (.iload_n 1) 1 41 = true := by decide +kernel
theorem zd99_41 : zD 99 41 .imul 1 42 = true := by decide +kernel
theorem zd99_42 : zD 99 42 (.iload_n 2) 1 43 = true := by decide +kernel
theorem zd99_43 : zD 99 43 .iadd 1 44 = true := by decide +kernel
theorem zd99_44 : zD 99 44 .iaload 1 45 = true := by decide +kernel
theorem zd99_45 : zDj 99 45 49 = true := by decide +kernel
theorem zd99_48 : zDc 99 48 49 (Int32.ofNat 0) = true := by decide +kernel
theorem zd99_49 : zD 99 49 .ireturn 1 50 = true := by decide +kernel
theorem zd100_0 : zD 100 0 (.iload_n 1) 1 1 = true := by decide +kernel
theorem zd100_1 : zDf 100 1 .lt 16 4 = true := by decide +kernel
theorem zd100_4 : zD 100 4 (.iload_n 1) 1 5 = true := by decide +kernel
theorem zd100_5 : zD 100 5 (.aload_n 0) 1 6 = true := by decide +kernel
theorem zd100_6 : zDg 100 6 9 7 8 (.int) = true := by decide +kernel
theorem zd100_9 : zDm 100 9 .ge 16 12 = true := by decide +kernel
theorem zd100_12 : zDc 100 12 13 (Int32.ofNat 1) = true := by decide +kernel
theorem zd100_13 : zDj 100 13 17 = true := by decide +kernel
theorem zd100_16 : zDc 100 16 17 (Int32.ofNat 0) = true := by decide +kernel
theorem zd100_17 : zD 100 17 .ireturn 1 18 = true := by decide +kernel
theorem zd101_0 : zD 101 0 (.aload_n 0) 1 1 = true := by decide +kernel
theorem zd101_1 : zD 101 1 (.aload_n 0) 1 2 = true := by decide +kernel
theorem zd101_2 : zD 101 2 (.iload_n 1) 1 3 = true := by decide +kernel
theorem zd101_3 : zD 101 3 (.iload_n 2) 1 4 = true := by decide +kernel
theorem zd101_4 : zDk 101 4 7 102 0 = true := by decide +kernel
theorem zd101_7 : zDf 101 7 .eq 24 10 = true := by decide +kernel
theorem zd101_10 : zD 101 10 (.iload_n 3) 1 11 = true := by decide +kernel
theorem zd101_11 : zDf 101 11 .lt 24 14 = true := by decide +kernel
theorem zd101_14 : zD 101 14 (.iload_n 3) 1 15 = true := by decide +kernel
theorem zd101_15 : zDc 101 15 17 (Int32.ofNat 32) = true := by decide +kernel
theorem zd101_17 : zDm 101 17 .ge 24 20 = true := by decide +kernel
theorem zd101_20 : zDc 101 20 21 (Int32.ofNat 0) = true := by decide +kernel
theorem zd101_21 : zDj 101 21 25 = true := by decide +kernel
theorem zd101_24 : zDc 101 24 25 (Int32.ofNat 1) = true := by decide +kernel
theorem zd101_25 : zDp 101 25 28 7 0 (.int) = true := by decide +kernel
theorem zd101_28 : zD 101 28 (.aload_n 0) 1 29 = true := by decide +kernel
theorem zd101_29 : zDg 101 29 32 7 0 (.int) = true := by decide +kernel
theorem zd101_32 : zDf 101 32 .ne 54 35 = true := by decide +kernel
theorem zd101_35 : zD 101 35 (.aload_n 0) 1 36 = true := by decide +kernel
theorem zd101_36 : zDg 101 36 39 7 13 (.array .int) = true := by decide +kernel
theorem zd101_39 : zDc 101 39 41 (Int32.ofNat 32) = true := by decide +kernel
theorem zd101_41 : zDc 101 41 43 (Int32.ofNat 8) = true := by decide +kernel
theorem zd101_43 : zD 101 43 (.iload_n 1) 1 44 = true := by decide +kernel
theorem zd101_44 : zD 101 44 .imul 1 45 = true := by decide +kernel
theorem zd101_45 : zD 101 45 (.iload_n 2) 1 46 = true := by decide +kernel
theorem zd101_46 : zD 101 46 .iadd 1 47 = true := by decide +kernel
theorem zd101_47 : zD 101 47 .imul 1 48 = true := by decide +kernel
theorem zd101_48 : zD 101 48 (.iload_n 3) 1 49 = true := by decide +kernel
theorem zd101_49 : zD 101 49 .iadd 1 50 = true := by decide +kernel
theorem zd101_50 : zD 101 50 .iaload 1 51 = true := by decide +kernel
theorem zd101_51 : zDj 101 51 55 = true := by decide +kernel
theorem zd101_54 : zDc 101 54 55 (Int32.ofNat 0) = true := by decide +kernel
theorem zd101_55 : zD 101 55 .ireturn 1 56 = true := by decide +kernel
theorem zd102_0 : zD 102 0 (.aload_n 0) 1 1 = true := by decide +kernel
theorem zd102_1 : zD 102 1 (.iload_n 1) 1 2 = true := by decide +kernel
theorem zd102_2 : zDk 102 2 5 100 0 = true := by decide +kernel
theorem zd102_5 : zDf 102 5 .eq 26 8 = true := by decide +kernel
theorem zd102_8 : zD 102 8 (.iload_n 2) 1 9 = true := by decide +kernel
theorem zd102_9 : zDf 102 9 .lt 26 12 = true := by decide +kernel
theorem zd102_12 : zD 102 12 (.iload_n 2) 1 13 = true := by decide +kernel
theorem zd102_13 : zD 102 13 (.aload_n 0) 1 14 = true := by decide +kernel
theorem zd102_14 : zDg 102 14 17 7 9 (.array .int) = true := by decide +kernel
theorem zd102_17 : zD 102 17 (.iload_n 1) 1 18 = true := by decide +kernel
theorem zd102_18 : zD 102 18 .iaload 1 19 = true := by decide +kernel
theorem zd102_19 : zDm 102 19 .ge 26 22 = true := by decide +kernel
theorem zd102_22 : zDc 102 22 23 (Int32.ofNat 1) = true := by decide +kernel
theorem zd102_23 : zDj 102 23 27 = true := by decide +kernel
theorem zd102_26 : zDc 102 26 27 (Int32.ofNat 0) = true := by decide +kernel
theorem zd102_27 : zD 102 27 .ireturn 1 28 = true := by decide +kernel
theorem zd103_0 : zD 103 0 (.aload_n 0) 1 1 = true := by decide +kernel
theorem zd103_1 : zD 103 1 (.aload_n 0) 1 2 = true := by decide +kernel
theorem zd103_2 : zD 103 2 (.iload_n 1) 1 3 = true := by decide +kernel
theorem zd103_3 : zD 103 3 (.iload_n 2) 1 4 = true := by decide +kernel
theorem zd103_4 : zDk 103 4 7 102 0 = true := by decide +kernel
theorem zd103_7 : zDf 103 7 .eq 18 10 = true := by decide +kernel
theorem zd103_10 : zD 103 10 (.iload_n 3) 1 11 = true := by decide +kernel
theorem zd103_11 : zDf 103 11 .lt 18 14 = true := by decide +kernel
theorem zd103_14 : zDc 103 14 15 (Int32.ofNat 0) = true := by decide +kernel
theorem zd103_15 : zDj 103 15 19 = true := by decide +kernel
theorem zd103_18 : zDc 103 18 19 (Int32.ofNat 1) = true := by decide +kernel
theorem zd103_19 : zDp 103 19 22 7 0 (.int) = true := by decide +kernel
theorem zd103_22 : zD 103 22 (.aload_n 0) 1 23 = true := by decide +kernel
theorem zd103_23 : zDg 103 23 26 7 0 (.int) = true := by decide +kernel
theorem zd103_26 : zDf 103 26 .eq 31 29 = true := by decide +kernel
theorem zd103_29 : zDc 103 29 30 (Int32.ofNat 0) = true := by decide +kernel
theorem zd103_30 : zD 103 30 .ireturn 1 31 = true := by decide +kernel
theorem zd103_31 : zD 103 31 (.aload_n 0) 1 32 = true := by decide +kernel
theorem zd103_32 : zD 103 32 (.iload_n 3) 1 33 = true := by decide +kernel
theorem zd103_33 : zDk 103 33 36 104 0 = true := by decide +kernel
theorem zd103_36 : zD 103 36 (.aload_n 0) 1 37 = true := by decide +kernel
theorem zd103_37 : zD 103 37 (.iload_n 2) 1 38 = true := by decide +kernel
theorem zd103_38 : zD 103 38 (.aload_n 0) 1 39 = true := by decide +kernel
theorem zd103_39 : zDg 103 39 42 7 9 (.array .int) = true := by decide +kernel
theorem zd103_42 : zD 103 42 (.iload_n 1) 1 43 = true := by decide +kernel
theorem zd103_43 : zD 103 43 .iaload 1 44 = true := by decide +kernel
theorem zd103_44 : zDk 103 44 47 105 2 = true := by decide +kernel
theorem zd103_47 : zDk 103 47 50 106 0 = true := by decide +kernel
theorem zd103_50 : zD 103 50 (.aload_n 0) 1 51 = true := by decide +kernel
theorem zd103_51 : zD 103 51 (.iload_n 1) 1 52 = true := by decide +kernel
theorem zd103_52 : zDk 103 52 55 95 0 = true := by decide +kernel
theorem zd103_55 : zD 103 55 (.iload_n 2) 1 56 = true := by decide +kernel
theorem zd103_56 : zD 103 56 (.istore 4) 2 58 = true := by decide +kernel
theorem zd103_58 : zD 103 58 (.aload_n 0) 1 59 = true := by decide +kernel
theorem zd103_59 : zDg 103 59 62 7 15 (.int) = true := by decide +kernel
theorem zd103_62 : zDc 103 62 63 (Int32.ofNat 1) = true := by decide +kernel
theorem zd103_63 : zDm 103 63 .le 143 66 = true := by decide +kernel
theorem zd103_66 : zD 103 66 (.iload 4) 2 68 = true := by decide +kernel
theorem zd103_68 : zDc 103 68 69 (Int32.ofNat 1) = true := by decide +kernel
theorem zd103_69 : zD 103 69 .ixor 1 70 = true := by decide +kernel
theorem zd103_70 : zD 103 70 (.istore 5) 2 72 = true := by decide +kernel
theorem zd103_72 : zD 103 72 (.iload 5) 2 74 = true := by decide +kernel
theorem zd103_74 : zD 103 74 (.aload_n 0) 1 75 = true := by decide +kernel
theorem zd103_75 : zDg 103 75 78 7 15 (.int) = true := by decide +kernel
theorem zd103_78 : zDm 103 78 .ge 130 81 = true := by decide +kernel
theorem zd103_81 : zD 103 81 (.aload_n 0) 1 82 = true := by decide +kernel
theorem zd103_82 : zD 103 82 (.iload 5) 2 84 = true := by decide +kernel
theorem zd103_84 : zD 103 84 (.iload 4) 2 86 = true := by decide +kernel
theorem zd103_86 : zDm 103 86 .ge 93 89 = true := by decide +kernel
theorem zd103_89 : zDc 103 89 90 (Int32.ofNat 0) = true := by decide +kernel
theorem zd103_90 : zDj 103 90 94 = true := by decide +kernel
theorem zd103_93 : zDc 103 93 94 (Int32.ofNat 1) = true := by decide +kernel
theorem zd103_94 : zDk 103 94 97 106 0 = true := by decide +kernel
theorem zd103_97 : zDc 103 97 98 (Int32.ofNat 0) = true := by decide +kernel
theorem zd103_98 : zD 103 98 (.istore 6) 2 100 = true := by decide +kernel
theorem zd103_100 : zD 103 100 (.iload 6) 2 102 = true := by decide +kernel
theorem zd103_102 : zDc 103 102 104 (Int32.ofNat 32) = true := by decide +kernel
theorem zd103_104 : zDm 103 104 .ge 130 107 = true := by decide +kernel
theorem zd103_107 : zD 103 107 (.aload_n 0) 1 108 = true := by decide +kernel
theorem zd103_108 : zD 103 108 (.aload_n 0) 1 109 = true := by decide +kernel
theorem zd103_109 : zDg 103 109 112 7 16 (.array .int) = true := by decide +kernel
theorem zd103_112 : zDc 103 112 114 (Int32.ofNat 32) = true := by decide +kernel
theorem zd103_114 : zD 103 114 (.iload 5) 2 116 = true := by decide +kernel
theorem zd103_116 : zD 103 116 .imul 1 117 = true := by decide +kernel
theorem zd103_117 : zD 103 117 (.iload 6) 2 119 = true := by decide +kernel
theorem zd103_119 : zD 103 119 .iadd 1 120 = true := by decide +kernel
theorem zd103_120 : zD 103 120 .iaload 1 121 = true := by decide +kernel
theorem zd103_121 : zDk 103 121 124 106 0 = true := by decide +kernel
theorem zd103_124 : zDi 103 124 127 6 (Int32.ofNat 1) = true := by decide +kernel
theorem zd103_127 : zDj 103 127 100 = true := by decide +kernel
theorem zd103_130 : zD 103 130 (.aload_n 0) 1 131 = true := by decide +kernel
theorem zd103_131 : zDk 103 131 134 96 0 = true := by decide +kernel
theorem zd103_134 : zD 103 134 (.iload 4) 2 136 = true := by decide +kernel
theorem zd103_136 : zDc 103 136 137 (Int32.ofNat 2) = true := by decide +kernel
theorem zd103_137 : zD 103 137 .idiv 1 138 = true := by decide +kernel
theorem zd103_138 : zD 103 138 (.istore 4) 2 140 = true := by decide +kernel
theorem zd103_140 : zDj 103 140 58 = true := by decide +kernel
theorem zd103_143 : zD 103 143 (.aload_n 0) 1 144 = true := by decide +kernel
theorem zd103_144 : zDg 103 144 147 7 31 (.int) = true := by decide +kernel
theorem zd103_147 : zD 103 147 .ireturn 1 148 = true := by decide +kernel
theorem zd104_0 : zD 104 0 (.aload_n 0) 1 1 = true := by decide +kernel
theorem zd104_1 : zD 104 1 (.iload_n 1) 1 2 = true := by decide +kernel
theorem zd104_2 : zDp 104 2 5 7 29 (.int) = true := by decide +kernel
theorem zd104_5 : zD 104 5 (.aload_n 0) 1 6 = true := by decide +kernel
theorem zd104_6 : zDc 104 6 7 (Int32.ofNat 0) = true := by decide +kernel
theorem zd104_7 : zDp 104 7 10 7 30 (.int) = true := by decide +kernel
theorem zd104_10 : zD 104 10 (.aload_n 0) 1 11 = true := by decide +kernel
theorem zd104_11 : zDc 104 11 12 (-1) = true := by decide +kernel
theorem zd104_12 : zDp 104 12 15 7 31 (.int) = true := by decide +kernel
theorem zd104_15 : zD 104 15 .return_ 1 16 = true := by decide +kernel
theorem zd105_0 : zDc 105 0 1 (Int32.ofNat 0) = true := by decide +kernel
theorem zd105_1 : zD 105 1 (.istore_n 2) 1 2 = true := by decide +kernel
theorem zd105_2 : zD 105 2 (.iload_n 0) 1 3 = true := by decide +kernel
theorem zd105_3 : zD 105 3 (.istore_n 3) 1 4 = true := by decide +kernel
theorem zd105_4 : zD 105 4 (.iload_n 1) 1 5 = true := by decide +kernel
theorem zd105_5 : zD 105 5 (.istore 4) 2 7 = true := by decide +kernel
theorem zd105_7 : zD 105 7 (.iload 4) 2 9 = true := by decide +kernel
theorem zd105_9 : zDc 105 9 10 (Int32.ofNat 1) = true := by decide +kernel
theorem zd105_10 : zDm 105 10 .le 44 13 = true := by decide +kernel
theorem zd105_13 : zD 105 13 (.iload_n 2) 1 14 = true := by decide +kernel
theorem zd105_14 : zD 105 14 (.iload_n 3) 1 15 = true := by decide +kernel
theorem zd105_15 : zDc 105 15 16 (Int32.ofNat 1) = true := by decide +kernel
theorem zd105_16 : zD 105 16 .ixor 1 17 = true := by decide +kernel
theorem zd105_17 : zD 105 17 (.iload 4) 2 19 = true := by decide +kernel
theorem zd105_19 : zDm 105 19 .ge 26 22 = true := by decide +kernel
theorem zd105_22 : zDc 105 22 23 (Int32.ofNat 1) = true := by decide +kernel
theorem zd105_23 : zDj 105 23 27 = true := by decide +kernel
theorem zd105_26 : zDc 105 26 27 (Int32.ofNat 0) = true := by decide +kernel
theorem zd105_27 : zD 105 27 .iadd 1 28 = true := by decide +kernel
theorem zd105_28 : zD 105 28 (.istore_n 2) 1 29 = true := by decide +kernel
theorem zd105_29 : zD 105 29 (.iload_n 3) 1 30 = true := by decide +kernel
theorem zd105_30 : zDc 105 30 31 (Int32.ofNat 2) = true := by decide +kernel
theorem zd105_31 : zD 105 31 .idiv 1 32 = true := by decide +kernel
theorem zd105_32 : zD 105 32 (.istore_n 3) 1 33 = true := by decide +kernel
theorem zd105_33 : zD 105 33 (.iload 4) 2 35 = true := by decide +kernel
theorem zd105_35 : zDc 105 35 36 (Int32.ofNat 1) = true := by decide +kernel
theorem zd105_36 : zD 105 36 .iadd 1 37 = true := by decide +kernel
theorem zd105_37 : zDc 105 37 38 (Int32.ofNat 2) = true := by decide +kernel
theorem zd105_38 : zD 105 38 .idiv 1 39 = true := by decide +kernel
theorem zd105_39 : zD 105 39 (.istore 4) 2 41 = true := by decide +kernel
theorem zd105_41 : zDj 105 41 7 = true := by decide +kernel
theorem zd105_44 : zD 105 44 (.iload_n 2) 1 45 = true := by decide +kernel
theorem zd105_45 : zD 105 45 .ireturn 1 46 = true := by decide +kernel
theorem zd106_0 : zD 106 0 (.aload_n 0) 1 1 = true := by decide +kernel
theorem zd106_1 : zDg 106 1 4 7 30 (.int) = true := by decide +kernel
theorem zd106_4 : zD 106 4 (.aload_n 0) 1 5 = true := by decide +kernel
theorem zd106_5 : zDg 106 5 8 7 29 (.int) = true := by decide +kernel
theorem zd106_8 : zDm 106 8 .ne 16 11 = true := by decide +kernel
theorem zd106_11 : zD 106 11 (.aload_n 0) 1 12 = true := by decide +kernel
theorem zd106_12 : zD 106 12 (.iload_n 1) 1 13 = true := by decide +kernel
theorem zd106_13 : zDp 106 13 16 7 31 (.int) = true := by decide +kernel
theorem zd106_16 : zD 106 16 (.aload_n 0) 1 17 = true := by decide +kernel
theorem zd106_17 : zD 106 17 .dup 1 18 = true := by decide +kernel
theorem zd106_18 : zDg 106 18 21 7 30 (.int) = true := by decide +kernel
theorem zd106_21 : zDc 106 21 22 (Int32.ofNat 1) = true := by decide +kernel
theorem zd106_22 : zD 106 22 .iadd 1 23 = true := by decide +kernel
theorem zd106_23 : zDp 106 23 26 7 30 (.int) = true := by decide +kernel
theorem zd106_26 : zD 106 26 .return_ 1 27 = true := by decide +kernel
theorem zd107_0 : zD 107 0 (.aload_n 0) 1 1 = true := by decide +kernel
theorem zd107_1 : zDc 107 1 2 (Int32.ofNat 0) = true := by decide +kernel
theorem zd107_2 : zDp 107 2 5 7 0 (.int) = true := by decide +kernel
theorem zd107_5 : zD 107 5 (.iload_n 1) 1 6 = true := by decide +kernel
theorem zd107_6 : zDk 107 6 9 87 2 = true := by decide +kernel
theorem zd107_9 : zDf 107 9 .eq 22 12 = true := by decide +kernel
theorem zd107_12 : zD 107 12 (.aload_n 0) 1 13 = true := by decide +kernel
theorem zd107_13 : zDg 107 13 16 7 17 (.int) = true := by decide +kernel
theorem zd107_16 : zDc 107 16 19 (Int32.ofNat 300) = true := by decide +kernel
theorem zd107_19 : zDm 107 19 .ne 24 22 = true := by decide +kernel
theorem zd107_22 : zDc 107 22 23 (Int32.ofNat 0) = true := by decide +kernel
theorem zd107_23 : zD 107 23 .ireturn 1 24 = true := by decide +kernel
theorem zd107_24 : zD 107 24 (.aload_n 0) 1 25 = true := by decide +kernel
theorem zd107_25 : zDg 107 25 28 7 18 (.array .int) = true := by decide +kernel
theorem zd107_28 : zD 107 28 (.aload_n 0) 1 29 = true := by decide +kernel
theorem zd107_29 : zDg 107 29 32 7 17 (.int) = true := by decide +kernel
theorem zd107_32 : zD 107 32 (.iload_n 1) 1 33 = true := by decide +kernel
theorem zd107_33 : zD 107 33 .iastore 1 34 = true := by decide +kernel
theorem zd107_34 : zD 107 34 (.aload_n 0) 1 35 = true := by decide +kernel
theorem zd107_35 : zD 107 35 .dup 1 36 = true := by decide +kernel
theorem zd107_36 : zDg 107 36 39 7 17 (.int) = true := by decide +kernel
theorem zd107_39 : zDc 107 39 40 (Int32.ofNat 1) = true := by decide +kernel
theorem zd107_40 : zD 107 40 .iadd 1 41 = true := by decide +kernel
theorem zd107_41 : zDp 107 41 44 7 17 (.int) = true := by decide +kernel
theorem zd107_44 : zDc 107 44 45 (Int32.ofNat 1) = true := by decide +kernel
theorem zd107_45 : zD 107 45 .ireturn 1 46 = true := by decide +kernel
theorem zd108_0 : zD 108 0 (.aload_n 0) 1 1 = true := by decide +kernel
theorem zd108_1 : zDc 108 1 2 (Int32.ofNat 0) = true := by decide +kernel
theorem zd108_2 : zDp 108 2 5 7 0 (.int) = true := by decide +kernel
theorem zd108_5 : zD 108 5 (.aload_n 0) 1 6 = true := by decide +kernel
theorem zd108_6 : zDc 108 6 7 (Int32.ofNat 0) = true := by decide +kernel
theorem zd108_7 : zDp 108 7 10 7 17 (.int) = true := by decide +kernel
theorem zd108_10 : zD 108 10 .return_ 1 11 = true := by decide +kernel
theorem zd109_0 : zD 109 0 (.aload_n 0) 1 1 = true := by decide +kernel
theorem zd109_1 : zD 109 1 (.iload_n 1) 1 2 = true := by decide +kernel
theorem zd109_2 : zDf 109 2 .lt 17 5 = true := by decide +kernel
theorem zd109_5 : zD 109 5 (.iload_n 1) 1 6 = true := by decide +kernel
theorem zd109_6 : zD 109 6 (.aload_n 0) 1 7 = true := by decide +kernel
theorem zd109_7 : zDg 109 7 10 7 17 (.int) = true := by decide +kernel
theorem zd109_10 : zDm 109 10 .ge 17 13 = true := by decide +kernel
theorem zd109_13 : zDc 109 13 14 (Int32.ofNat 0) = true := by decide +kernel
theorem zd109_14 : zDj 109 14 18 = true := by decide +kernel
theorem zd109_17 : zDc 109 17 18 (Int32.ofNat 1) = true := by decide +kernel
theorem zd109_18 : zDp 109 18 21 7 0 (.int) = true := by decide +kernel
theorem zd109_21 : zD 109 21 (.aload_n 0) 1 22 = true := by decide +kernel
theorem zd109_22 : zDg 109 22 25 7 0 (.int) = true := by decide +kernel
theorem zd109_25 : zDf 109 25 .eq 30 28 = true := by decide +kernel
theorem zd109_28 : zDc 109 28 29 (Int32.ofNat 0) = true := by decide +kernel
theorem zd109_29 : zD 109 29 .ireturn 1 30 = true := by decide +kernel
theorem zd109_30 : zD 109 30 (.aload_n 0) 1 31 = true := by decide +kernel
theorem zd109_31 : zDg 109 31 34 7 18 (.array .int) = true := by decide +kernel
theorem zd109_34 : zD 109 34 (.iload_n 1) 1 35 = true := by decide +kernel
theorem zd109_35 : zD 109 35 (.aload_n 0) 1 36 = true := by decide +kernel
theorem zd109_36 : zDg 109 36 39 7 18 (.array .int) = true := by decide +kernel
theorem zd109_39 : zD 109 39 (.iload_n 1) 1 40 = true := by decide +kernel
theorem zd109_40 : zD 109 40 .iaload 1 41 = true := by decide +kernel
theorem zd109_41 : zD 109 41 (.iload_n 2) 1 42 = true := by decide +kernel
theorem zd109_42 : zDc 109 42 45 (Int32.ofNat 255) = true := by decide +kernel
theorem zd109_45 : zD 109 45 .iand 1 46 = true := by decide +kernel
theorem zd109_46 : zD 109 46 .ixor 1 47 = true := by decide +kernel
theorem zd109_47 : zD 109 47 .iastore 1 48 = true := by decide +kernel
theorem zd109_48 : zD 109 48 (.iload_n 2) 1 49 = true := by decide +kernel
theorem zd109_49 : zDc 109 49 52 (Int32.ofNat 255) = true := by decide +kernel
theorem zd109_52 : zD 109 52 .iand 1 53 = true := by decide +kernel
theorem zd109_53 : zDf 109 53 .eq 60 56 = true := by decide +kernel
theorem zd109_56 : zDc 109 56 57 (Int32.ofNat 1) = true := by decide +kernel
theorem zd109_57 : zDj 109 57 61 = true := by decide +kernel
theorem zd109_60 : zDc 109 60 61 (Int32.ofNat 0) = true := by decide +kernel
theorem zd109_61 : zD 109 61 .ireturn 1 62 = true := by decide +kernel
theorem zd110_0 : zD 110 0 (.aload_n 0) 1 1 = true := by decide +kernel
theorem zd110_1 : zDc 110 1 2 (Int32.ofNat 0) = true := by decide +kernel
theorem zd110_2 : zDp 110 2 5 7 0 (.int) = true := by decide +kernel
theorem zd110_5 : zD 110 5 (.aload_n 0) 1 6 = true := by decide +kernel
theorem zd110_6 : zDk 110 6 9 111 0 = true := by decide +kernel
theorem zd110_9 : zDf 110 9 .eq 16 12 = true := by decide +kernel
theorem zd110_12 : zDc 110 12 13 (Int32.ofNat 1) = true := by decide +kernel
theorem zd110_13 : zDj 110 13 17 = true := by decide +kernel
theorem zd110_16 : zDc 110 16 17 (Int32.ofNat 0) = true := by decide +kernel
theorem zd110_17 : zD 110 17 .ireturn 1 18 = true := by decide +kernel
theorem zd111_0 : zD 111 0 (.aload_n 0) 1 1 = true := by decide +kernel
theorem zd111_1 : zDg 111 1 4 7 17 (.int) = true := by decide +kernel
theorem zd111_4 : zDc 111 4 5 (Int32.ofNat 5) = true := by decide +kernel
theorem zd111_5 : zDm 111 5 .lt 21 8 = true := by decide +kernel
theorem zd111_8 : zD 111 8 (.aload_n 0) 1 9 = true := by decide +kernel
theorem zd111_9 : zD 111 9 (.aload_n 0) 1 10 = true := by decide +kernel
theorem zd111_10 : zDg 111 10 13 7 18 (.array .int) = true := by decide +kernel
theorem zd111_13 : zDc 111 13 14 (Int32.ofNat 0) = true := by decide +kernel
theorem zd111_14 : zD 111 14 .iaload 1 15 = true := by decide +kernel
theorem zd111_15 : zDk 111 15 18 100 0 = true := by decide +kernel
theorem zd111_18 : zDf 111 18 .ne 23 21 = true := by decide +kernel
theorem zd111_21 : zDc 111 21 22 (Int32.ofNat 0) = true := by decide +kernel
theorem zd111_22 : zD 111 22 .ireturn 1 23 = true := by decide +kernel
theorem zd111_23 : zD 111 23 (.aload_n 0) 1 24 = true := by decide +kernel
theorem zd111_24 : zDg 111 24 27 7 18 (.array .int) = true := by decide +kernel
theorem zd111_27 : zDc 111 27 28 (Int32.ofNat 3) = true := by decide +kernel
theorem zd111_28 : zD 111 28 .iaload 1 29 = true := by decide +kernel
theorem zd111_29 : zD 111 29 (.istore_n 1) 1 30 = true := by decide +kernel
theorem zd111_30 : zD 111 30 (.iload_n 1) 1 31 = true := by decide +kernel
theorem zd111_31 : zDc 111 31 33 (Int32.ofNat 64) = true := by decide +kernel
theorem zd111_33 : zDm 111 33 .gt 68 36 = true := by decide +kernel
theorem zd111_36 : zDc 111 36 37 (Int32.ofNat 5) = true := by decide +kernel
theorem zd111_37 : zD 111 37 (.iload_n 1) 1 38 = true := by decide +kernel
theorem zd111_38 : zD 111 38 .iadd 1 39 = true := by decide +kernel
theorem zd111_39 : zD 111 39 (.aload_n 0) 1 40 = true := by decide +kernel
theorem zd111_40 : zDg 111 40 43 7 17 (.int) = true := by decide +kernel
theorem zd111_43 : zDm 111 43 .gt 68 46 = true := by decide +kernel
theorem zd111_46 : zD 111 46 (.aload_n 0) 1 47 = true := by decide +kernel
theorem zd111_47 : zDg 111 47 50 7 17 (.int) = true := by decide +kernel
theorem zd111_50 : zDc 111 50 51 (Int32.ofNat 5) = true := by decide +kernel
theorem zd111_51 : zD 111 51 (.iload_n 1) 1 52 = true := by decide +kernel
theorem zd111_52 : zD 111 52 .iadd 1 53 = true := by decide +kernel
theorem zd111_53 : zDc 111 53 55 (Int32.ofNat 33) = true := by decide +kernel
theorem zd111_55 : zD 111 55 (.aload_n 0) 1 56 = true := by decide +kernel
theorem zd111_56 : zDg 111 56 59 7 18 (.array .int) = true := by decide +kernel
theorem zd111_59 : zDc 111 59 60 (Int32.ofNat 4) = true := by decide +kernel
theorem zd111_60 : zD 111 60 (.iload_n 1) 1 61 = true := by decide +kernel
theorem zd111_61 : zD 111 61 .iadd 1 62 = true := by decide +kernel
theorem zd111_62 : zD 111 62 .iaload 1 63 = true := by decide +kernel
theorem zd111_63 : zD 111 63 .imul 1 64 = true := by decide +kernel
theorem zd111_64 : zD 111 64 .iadd 1 65 = true := by decide +kernel
theorem zd111_65 : zDm 111 65 .eq 70 68 = true := by decide +kernel
theorem zd111_68 : zDc 111 68 69 (Int32.ofNat 0) = true := by decide +kernel
theorem zd111_69 : zD 111 69 .ireturn 1 70 = true := by decide +kernel
theorem zd111_70 : zD 111 70 (.aload_n 0) 1 71 = true := by decide +kernel
theorem zd111_71 : zDc 111 71 72 (Int32.ofNat 0) = true := by decide +kernel
theorem zd111_72 : zDk 111 72 75 91 0 = true := by decide +kernel
theorem zd111_75 : zD 111 75 (.aload_n 0) 1 76 = true := by decide +kernel
theorem zd111_76 : zD 111 76 (.aload_n 0) 1 77 = true := by decide +kernel
theorem zd111_77 : zDg 111 77 80 7 18 (.array .int) = true := by decide +kernel
theorem zd111_80 : zDc 111 80 81 (Int32.ofNat 1) = true := by decide +kernel
theorem zd111_81 : zD 111 81 .iaload 1 82 = true := by decide +kernel
theorem zd111_82 : zDk 111 82 85 91 0 = true := by decide +kernel
theorem zd111_85 : zD 111 85 (.aload_n 0) 1 86 = true := by decide +kernel
theorem zd111_86 : zD 111 86 (.aload_n 0) 1 87 = true := by decide +kernel
theorem zd111_87 : zDg 111 87 90 7 18 (.array .int) = true := by decide +kernel
theorem zd111_90 : zDc 111 90 91 (Int32.ofNat 2) = true := by decide +kernel
theorem zd111_91 : zD 111 91 .iaload 1 92 = true := by decide +kernel
theorem zd111_92 : zDk 111 92 95 91 0 = true := by decide +kernel
theorem zd111_95 : zDc 111 95 96 (Int32.ofNat 0) = true := by decide +kernel
theorem zd111_96 : zD 111 96 (.istore_n 2) 1 97 = true := by decide +kernel
theorem zd111_97 : zD 111 97 (.iload_n 2) 1 98 = true := by decide +kernel
theorem zd111_98 : zD 111 98 (.iload_n 1) 1 99 = true := by decide +kernel
theorem zd111_99 : zDm 111 99 .ge 120 102 = true := by decide +kernel
theorem zd111_102 : zD 111 102 (.aload_n 0) 1 103 = true := by decide +kernel
theorem zd111_103 : zD 111 103 (.aload_n 0) 1 104 = true := by decide +kernel
theorem zd111_104 : zDg 111 104 107 7 18 (.array .int) = true := by decide +kernel
theorem zd111_107 : zDc 111 107 108 (Int32.ofNat 4) = true := by decide +kernel
theorem zd111_108 : zD 111 108 (.iload_n 2) 1 109 = true := by decide +kernel
theorem zd111_109 : zD 111 109 .iadd 1 110 = true := by decide +kernel
theorem zd111_110 : zD 111 110 .iaload 1 111 = true := by decide +kernel
theorem zd111_111 : zDk 111 111 114 91 0 = true := by decide +kernel
theorem zd111_114 : zDi 111 114 117 2 (Int32.ofNat 1) = true := by decide +kernel
theorem zd111_117 : zDj 111 117 97 = true := by decide +kernel
theorem zd111_120 : zD 111 120 (.aload_n 0) 1 121 = true := by decide +kernel
theorem zd111_121 : zDk 111 121 124 92 0 = true := by decide +kernel
theorem zd111_124 : zDc 111 124 125 (Int32.ofNat 0) = true := by decide +kernel
theorem zd111_125 : zD 111 125 (.istore_n 2) 1 126 = true := by decide +kernel
theorem zd111_126 : zD 111 126 (.iload_n 2) 1 127 = true := by decide +kernel
theorem zd111_127 : zDc 111 127 129 (Int32.ofNat 32) = true := by decide +kernel
theorem zd111_129 : zDm 111 129 .ge 150 132 = true := by decide +kernel
theorem zd111_132 : zD 111 132 (.aload_n 0) 1 133 = true := by decide +kernel
theorem zd111_133 : zDg 111 133 136 7 16 (.array .int) = true := by decide +kernel
theorem zd111_136 : zD 111 136 (.iload_n 2) 1 137 = true := by decide +kernel
theorem zd111_137 : zD 111 137 (.aload_n 0) 1 138 = true := by decide +kernel
theorem zd111_138 : zDg 111 138 141 7 7 (.array .int) = true := by decide +kernel
theorem zd111_141 : zD 111 141 (.iload_n 2) 1 142 = true := by decide +kernel
theorem zd111_142 : zD 111 142 .iaload 1 143 = true := by decide +kernel
theorem zd111_143 : zD 111 143 .iastore 1 144 = true := by decide +kernel
theorem zd111_144 : zDi 111 144 147 2 (Int32.ofNat 1) = true := by decide +kernel
theorem zd111_147 : zDj 111 147 126 = true := by decide +kernel
theorem zd111_150 : zDc 111 150 151 (Int32.ofNat 1) = true := by decide +kernel
theorem zd111_151 : zD 111 151 (.istore_n 2) 1 152 = true := by decide +kernel
theorem zd111_152 : zDc 111 152 153 (Int32.ofNat 5) = true := by decide +kernel
theorem zd111_153 : zD 111 153 (.iload_n 1) 1 154 = true := by decide +kernel
theorem zd111_154 : zD 111 154 .iadd 1 155 = true := by decide +kernel
theorem zd111_155 : zD 111 155 (.istore_n 3) 1 156 = true := by decide +kernel
theorem zd111_156 : zD 111 156 (.iload_n 3) 1 157 = true := by decide +kernel
theorem zd111_157 : zD 111 157 (.aload_n 0) 1 158 = true := by decide +kernel
theorem zd111_158 : zDg 111 158 161 7 17 (.int) = true := by decide +kernel
theorem zd111_161 : zDm 111 161 .ge 278 164 = true := by decide +kernel
theorem zd111_164 : zD 111 164 (.iload_n 2) 1 165 = true := by decide +kernel
theorem zd111_165 : zDf 111 165 .eq 278 168 = true := by decide +kernel
theorem zd111_168 : zD 111 168 (.aload_n 0) 1 169 = true := by decide +kernel
theorem zd111_169 : zDg 111 169 172 7 18 (.array .int) = true := by decide +kernel
theorem zd111_172 : zD 111 172 (.iload_n 3) 1 173 = true := by decide +kernel
theorem zd111_173 : zD 111 173 .iaload 1 174 = true := by decide +kernel
theorem zd111_174 : zDc 111 174 175 (Int32.ofNat 2) = true := by decide +kernel
theorem zd111_175 : zDm 111 175 .ge 182 178 = true := by decide +kernel
theorem zd111_178 : zDc 111 178 179 (Int32.ofNat 1) = true := by decide +kernel
theorem zd111_179 : zDj 111 179 183 = true := by decide +kernel
theorem zd111_182 : zDc 111 182 183 (Int32.ofNat 0) = true := by decide +kernel
theorem zd111_183 : zD 111 183 (.istore_n 2) 1 184 = true := by decide +kernel
theorem zd111_184 : zD 111 184 (.aload_n 0) 1 185 = true := by decide +kernel
theorem zd111_185 : zDc 111 185 186 (Int32.ofNat 1) = true := by decide +kernel
theorem zd111_186 : zDk 111 186 189 91 0 = true := by decide +kernel
theorem zd111_189 : zD 111 189 (.aload_n 0) 1 190 = true := by decide +kernel
theorem zd111_190 : zDg 111 190 193 7 18 (.array .int) = true := by decide +kernel
theorem zd111_193 : zD 111 193 (.iload_n 3) 1 194 = true := by decide +kernel
theorem zd111_194 : zD 111 194 .iaload 1 195 = true := by decide +kernel
theorem zd111_195 : zDf 111 195 .ne 209 198 = true := by decide +kernel
theorem zd111_198 : zD 111 198 (.aload_n 0) 1 199 = true := by decide +kernel
theorem zd111_199 : zD 111 199 (.aload_n 0) 1 200 = true := by decide +kernel
theorem zd111_200 : zDg 111 200 203 7 18 (.array .int) = true := by decide +kernel
theorem zd111_203 : zD 111 203 (.iload_n 3) 1 204 = true := by decide +kernel
theorem zd111_204 : zDc 111 204 205 (Int32.ofNat 1) = true := by decide +kernel
theorem zd111_205 : zD 111 205 .iadd 1 206 = true := by decide +kernel
theorem zd111_206 : zDk 111 206 209 97 0 = true := by decide +kernel
theorem zd111_209 : zD 111 209 (.aload_n 0) 1 210 = true := by decide +kernel
theorem zd111_210 : zD 111 210 (.aload_n 0) 1 211 = true := by decide +kernel
theorem zd111_211 : zDg 111 211 214 7 16 (.array .int) = true := by decide +kernel
theorem zd111_214 : zDc 111 214 215 (Int32.ofNat 0) = true := by decide +kernel
theorem zd111_215 : zDk 111 215 218 97 0 = true := by decide +kernel
theorem zd111_218 : zD 111 218 (.aload_n 0) 1 219 = true := by decide +kernel
theorem zd111_219 : zDg 111 219 222 7 18 (.array .int) = true := by decide +kernel
theorem zd111_222 : zD 111 222 (.iload_n 3) 1 223 = true := by decide +kernel
theorem zd111_223 : zD 111 223 .iaload 1 224 = true := by decide +kernel
theorem zd111_224 : zDf 111 224 .eq 238 227 = true := by decide +kernel
theorem zd111_227 : zD 111 227 (.aload_n 0) 1 228 = true := by decide +kernel
theorem zd111_228 : zD 111 228 (.aload_n 0) 1 229 = true := by decide +kernel
theorem zd111_229 : zDg 111 229 232 7 18 (.array .int) = true := by decide +kernel
theorem zd111_232 : zD 111 232 (.iload_n 3) 1 233 = true := by decide +kernel
theorem zd111_233 : zDc 111 233 234 (Int32.ofNat 1) = true := by decide +kernel
theorem zd111_234 : zD 111 234 .iadd 1 235 = true := by decide +kernel
theorem zd111_235 : zDk 111 235 238 97 0 = true := by decide +kernel
theorem zd111_238 : zD 111 238 (.aload_n 0) 1 239 = true := by decide +kernel
theorem zd111_239 : zDk 111 239 242 92 0 = true := by decide +kernel
theorem zd111_242 : zDc 111 242 243 (Int32.ofNat 0) = true := by decide +kernel
theorem zd111_243 : zD 111 243 (.istore 4) 2 245 = true := by decide +kernel
theorem zd111_245 : zD 111 245 (.iload 4) 2 247 = true := by decide +kernel
theorem zd111_247 : zDc 111 247 249 (Int32.ofNat 32) = true := by decide +kernel
theorem zd111_249 : zDm 111 249 .ge 272 252 = true := by decide +kernel
theorem zd111_252 : zD 111 252 (.aload_n 0) 1 253 = true := by decide +kernel
theorem zd111_253 : zDg 111 253 256 7 16 (.array .int) = true := by decide +kernel
theorem zd111_256 : zD 111 256 (.iload 4) 2 258 = true := by decide +kernel
theorem zd111_258 : zD 111 258 (.aload_n 0) 1 259 = true := by decide +kernel
theorem zd111_259 : zDg 111 259 262 7 7 (.array .int) = true := by decide +kernel
theorem zd111_262 : zD 111 262 (.iload 4) 2 264 = true := by decide +kernel
theorem zd111_264 : zD 111 264 .iaload 1 265 = true := by decide +kernel
theorem zd111_265 : zD 111 265 .iastore 1 266 = true := by decide +kernel
theorem zd111_266 : zDi 111 266 269 4 (Int32.ofNat 1) = true := by decide +kernel
theorem zd111_269 : zDj 111 269 245 = true := by decide +kernel
theorem zd111_272 : zDi 111 272 275 3 (Int32.ofNat 33) = true := by decide +kernel
theorem zd111_275 : zDj 111 275 156 = true := by decide +kernel
theorem zd111_278 : zDc 111 278 279 (Int32.ofNat 0) = true := by decide +kernel
theorem zd111_279 : zD 111 279 (.istore_n 3) 1 280 = true := by decide +kernel
theorem zd111_280 : zD 111 280 (.iload_n 3) 1 281 = true := by decide +kernel
theorem zd111_281 : zDc 111 281 283 (Int32.ofNat 32) = true := by decide +kernel
theorem zd111_283 : zDm 111 283 .ge 327 286 = true := by decide +kernel
theorem zd111_286 : zD 111 286 (.iload_n 2) 1 287 = true := by decide +kernel
theorem zd111_287 : zDf 111 287 .eq 319 290 = true := by decide +kernel
theorem zd111_290 : zD 111 290 (.aload_n 0) 1 291 = true := by decide +kernel
theorem zd111_291 : zDg 111 291 294 7 16 (.array .int) = true := by decide +kernel
theorem zd111_294 : zD 111 294 (.iload_n 3) 1 295 = true := by decide +kernel
theorem zd111_295 : zD 111 295 .iaload 1 296 = true := by decide +kernel
theorem zd111_296 : zD 111 296 (.aload_n 0) 1 297 = true := by decide +kernel
theorem zd111_297 : zDg 111 297 300 7 14 (.array .int) = true := by decide +kernel
theorem zd111_300 : zDc 111 300 302 (Int32.ofNat 32) = true := by decide +kernel
theorem zd111_302 : zD 111 302 (.aload_n 0) 1 303 = true := by decide +kernel
theorem zd111_303 : zDg 111 303 306 7 18 (.array .int) = true := by decide +kernel
theorem zd111_306 : zDc 111 306 307 (Int32.ofNat 0) = true := by decide +kernel
theorem zd111_307 : zD 111 307 .iaload 1 308 = true := by decide +kernel
theorem zd111_308 : zD 111 308 .imul 1 309 = true := by decide +kernel
theorem zd111_309 : zD 111 309 (.iload_n 3) 1 310 = true := by decide +kernel
theorem zd111_310 : zD 111 310 .iadd 1 311 = true := by decide +kernel
theorem zd111_311 : zD 111 311 .iaload 1 312 = true := by decide +kernel
theorem zd111_312 : zDm 111 312 .ne 319 315 = true := by decide +kernel
theorem zd111_315 : zDc 111 315 316 (Int32.ofNat 1) = true := by decide +kernel
theorem zd111_316 : zDj 111 316 320 = true := by decide +kernel
theorem zd111_319 : zDc 111 319 320 (Int32.ofNat 0) = true := by decide +kernel
theorem zd111_320 : zD 111 320 (.istore_n 2) 1 321 = true := by decide +kernel
theorem zd111_321 : zDi 111 321 324 3 (Int32.ofNat 1) = true := by decide +kernel
theorem zd111_324 : zDj 111 324 280 = true := by decide +kernel
theorem zd111_327 : zD 111 327 (.iload_n 2) 1 328 = true := by decide +kernel
theorem zd111_328 : zD 111 328 .ireturn 1 329 = true := by decide +kernel
theorem zd112_0 : zD 112 0 (.aload_n 0) 1 1 = true := by decide +kernel
theorem zd112_1 : zD 112 1 (.aload_n 0) 1 2 = true := by decide +kernel
theorem zd112_2 : zD 112 2 (.iload_n 1) 1 3 = true := by decide +kernel
theorem zd112_3 : zDk 112 3 6 100 0 = true := by decide +kernel
theorem zd112_6 : zDf 112 6 .ne 13 9 = true := by decide +kernel
theorem zd112_9 : zDc 112 9 10 (Int32.ofNat 1) = true := by decide +kernel
theorem zd112_10 : zDj 112 10 37 = true := by decide +kernel
theorem zd112_13 : zD 112 13 (.iload_n 2) 1 14 = true := by decide +kernel
theorem zd112_14 : zDf 112 14 .lt 36 17 = true := by decide +kernel
theorem zd112_17 : zD 112 17 (.iload_n 2) 1 18 = true := by decide +kernel
theorem zd112_18 : zDc 112 18 20 (Int32.ofNat 16) = true := by decide +kernel
theorem zd112_20 : zDm 112 20 .ge 36 23 = true := by decide +kernel
theorem zd112_23 : zD 112 23 (.iload_n 3) 1 24 = true := by decide +kernel
theorem zd112_24 : zDf 112 24 .lt 36 27 = true := by decide +kernel
theorem zd112_27 : zD 112 27 (.iload_n 3) 1 28 = true := by decide +kernel
theorem zd112_28 : zDc 112 28 29 (Int32.ofNat 4) = true := by decide +kernel
theorem zd112_29 : zDm 112 29 .ge 36 32 = true := by decide +kernel
theorem zd112_32 : zDc 112 32 33 (Int32.ofNat 0) = true := by decide +kernel
theorem zd112_33 : zDj 112 33 37 = true := by decide +kernel
theorem zd112_36 : zDc 112 36 37 (Int32.ofNat 2) = true := by decide +kernel
theorem zd112_37 : zDp 112 37 40 7 0 (.int) = true := by decide +kernel
theorem zd112_40 : zD 112 40 (.aload_n 0) 1 41 = true := by decide +kernel
theorem zd112_41 : zDg 112 41 44 7 0 (.int) = true := by decide +kernel
theorem zd112_44 : zDf 112 44 .eq 49 47 = true := by decide +kernel
theorem zd112_47 : zDc 112 47 48 (Int32.ofNat 0) = true := by decide +kernel
theorem zd112_48 : zD 112 48 .ireturn 1 49 = true := by decide +kernel
theorem zd112_49 : zD 112 49 (.aload_n 0) 1 50 = true := by decide +kernel
theorem zd112_50 : zDg 112 50 53 7 19 (.array .int) = true := by decide +kernel
theorem zd112_53 : zDc 112 53 55 (Int32.ofNat 16) = true := by decide +kernel
theorem zd112_55 : zD 112 55 (.iload_n 1) 1 56 = true := by decide +kernel
theorem zd112_56 : zD 112 56 .imul 1 57 = true := by decide +kernel
theorem zd112_57 : zD 112 57 (.iload_n 2) 1 58 = true := by decide +kernel
theorem zd112_58 : zD 112 58 .iadd 1 59 = true := by decide +kernel
theorem zd112_59 : zDc 112 59 60 (Int32.ofNat 1) = true := by decide +kernel
theorem zd112_60 : zD 112 60 (.iload_n 3) 1 61 = true := by decide +kernel
theorem zd112_61 : zD 112 61 .iadd 1 62 = true := by decide +kernel
theorem zd112_62 : zD 112 62 .iastore 1 63 = true := by decide +kernel
theorem zd112_63 : zD 112 63 (.aload_n 0) 1 64 = true := by decide +kernel
theorem zd112_64 : zD 112 64 (.iload_n 1) 1 65 = true := by decide +kernel
theorem zd112_65 : zDc 112 65 66 (Int32.ofNat 0) = true := by decide +kernel
theorem zd112_66 : zD 112 66 (.iload_n 2) 1 67 = true := by decide +kernel
theorem zd112_67 : zD 112 67 (.iload_n 3) 1 68 = true := by decide +kernel
theorem zd112_68 : zDk 112 68 71 113 0 = true := by decide +kernel
theorem zd112_71 : zD 112 71 (.aload_n 0) 1 72 = true := by decide +kernel
theorem zd112_72 : zD 112 72 (.iload_n 1) 1 73 = true := by decide +kernel
theorem zd112_73 : zDk 112 73 76 114 0 = true := by decide +kernel
theorem zd112_76 : zDf 112 76 .eq 83 79 = true := by decide +kernel
theorem zd112_79 : zDc 112 79 80 (Int32.ofNat 1) = true := by decide +kernel
theorem zd112_80 : zDj 112 80 84 = true := by decide +kernel
theorem zd112_83 : zDc 112 83 84 (Int32.ofNat 0) = true := by decide +kernel
theorem zd112_84 : zD 112 84 .ireturn 1 85 = true := by decide +kernel
theorem zd113_0 : zD 113 0 (.aload_n 0) 1 1 = true := by decide +kernel
theorem zd113_1 : zDg 113 1 4 7 24 (.int) = true := by decide +kernel
theorem zd113_4 : zDc 113 4 6 (Int32.ofNat 100) = true := by decide +kernel
theorem zd113_6 : zDm 113 6 .ne 10 9 = true := by decide +kernel
theorem zd113_9 : zD 113 9 .return_ 1 10 = true := by decide +kernel
theorem zd113_10 : zD 113 10 (.aload_n 0) 1 11 = true := by decide +kernel
theorem zd113_11 : zDg 113 11 14 7 25 (.array .int) = true := by decide +kernel
theorem zd113_14 : zD 113 14 (.aload_n 0) 1 15 = true := by decide +kernel
theorem zd113_15 : zDg 113 15 18 7 24 (.int) = true := by decide +kernel
theorem zd113_18 : zD 113 18 (.iload_n 1) 1 19 = true := by decide +kernel
theorem zd113_19 : zD 113 19 .iastore 1 20 = true := by decide +kernel
theorem zd113_20 : zD 113 20 (.aload_n 0) 1 21 = true := by decide +kernel
theorem zd113_21 : zDg 113 21 24 7 26 (.array .int) = true := by decide +kernel
theorem zd113_24 : zD 113 24 (.aload_n 0) 1 25 = true := by decide +kernel
theorem zd113_25 : zDg 113 25 28 7 24 (.int) = true := by decide +kernel
theorem zd113_28 : zD 113 28 (.iload_n 2) 1 29 = true := by decide +kernel
theorem zd113_29 : zD 113 29 .iastore 1 30 = true := by decide +kernel
theorem zd113_30 : zD 113 30 (.aload_n 0) 1 31 = true := by decide +kernel
theorem zd113_31 : zDg 113 31 34 7 27 (.array .int) = true := by decide +kernel
theorem zd113_34 : zD 113 34 (.aload_n 0) 1 35 = true := by decide +kernel
theorem zd113_35 : zDg 113 35 38 7 24 (.int) = true := by decide +kernel
theorem zd113_38 : zD 113 38 (.iload_n 3) 1 39 = true := by decide +kernel
theorem zd113_39 : zD 113 39 .iastore 1 40 = true := by decide +kernel
theorem zd113_40 : zD 113 40 (.aload_n 0) 1 41 = true := by decide +kernel
theorem zd113_41 : zDg 113 41 44 7 28 (.array .int) = true := by decide +kernel
theorem zd113_44 : zD 113 44 (.aload_n 0) 1 45 = true := by decide +kernel
theorem zd113_45 : zDg 113 45 48 7 24 (.int) = true := by decide +kernel
theorem zd113_48 : zD 113 48 (.iload 4) 2 50 = true := by decide +kernel
theorem zd113_50 : zD 113 50 .iastore 1 51 = true := by decide +kernel
theorem zd113_51 : zD 113 51 (.aload_n 0) 1 52 = true := by decide +kernel
theorem zd113_52 : zD 113 52 .dup 1 53 = true := by decide +kernel
theorem zd113_53 : zDg 113 53 56 7 24 (.int) = true := by decide +kernel
theorem zd113_56 : zDc 113 56 57 (Int32.ofNat 1) = true := by decide +kernel
theorem zd113_57 : zD 113 57 .iadd 1 58 = true := by decide +kernel
theorem zd113_58 : zDp 113 58 61 7 24 (.int) = true := by decide +kernel
theorem zd113_61 : zD 113 61 .return_ 1 62 = true := by decide +kernel
theorem zd114_0 : zDc 114 0 1 (Int32.ofNat 0) = true := by decide +kernel
theorem zd114_1 : zD 114 1 (.istore_n 2) 1 2 = true := by decide +kernel
theorem zd114_2 : zDc 114 2 3 (Int32.ofNat 0) = true := by decide +kernel
theorem zd114_3 : zD 114 3 (.istore_n 3) 1 4 = true := by decide +kernel
theorem zd114_4 : zD 114 4 (.iload_n 3) 1 5 = true := by decide +kernel
theorem zd114_5 : zDc 114 5 7 (Int32.ofNat 16) = true := by decide +kernel
theorem zd114_7 : zDm 114 7 .ge 50 10 = true := by decide +kernel
theorem zd114_10 : zD 114 10 (.aload_n 0) 1 11 = true := by decide +kernel
theorem zd114_11 : zDg 114 11 14 7 19 (.array .int) = true := by decide +kernel
theorem zd114_14 : zDc 114 14 16 (Int32.ofNat 16) = true := by decide +kernel
theorem zd114_16 : zD 114 16 (.iload_n 1) 1 17 = true := by decide +kernel
theorem zd114_17 : zD 114 17 .imul 1 18 = true := by decide +kernel
theorem zd114_18 : zD 114 18 (.iload_n 3) 1 19 = true := by decide +kernel
theorem zd114_19 : zD 114 19 .iadd 1 20 = true := by decide +kernel
theorem zd114_20 : zD 114 20 .iaload 1 21 = true := by decide +kernel
theorem zd114_21 : zDf 114 21 .le 42 24 = true := by decide +kernel
theorem zd114_24 : zD 114 24 (.iload_n 2) 1 25 = true := by decide +kernel
theorem zd114_25 : zDc 114 25 26 (Int32.ofNat 1) = true := by decide +kernel
theorem zd114_26 : zD 114 26 (.aload_n 0) 1 27 = true := by decide +kernel
theorem zd114_27 : zDg 114 27 30 7 19 (.array .int) = true := by decide +kernel
theorem zd114_30 : zDc 114 30 32 (Int32.ofNat 16) = true := by decide +kernel
theorem zd114_32 : zD 114 32 (.iload_n 1) 1 33 = true := by decide +kernel
theorem zd114_33 : zD 114 33 .imul 1 34 = true := by decide +kernel
theorem zd114_34 : zD 114 34 (.iload_n 3) 1 35 = true := by decide +kernel
theorem zd114_35 : zD 114 35 .iadd 1 36 = true := by decide +kernel
theorem zd114_36 : zD 114 36 .iaload 1 37 = true := by decide +kernel
theorem zd114_37 : zD 114 37 .ishl 1 38 = true := by decide +kernel
theorem zd114_38 : zD 114 38 .ior 1 39 = true := by decide +kernel
theorem zd114_39 : zDj 114 39 43 = true := by decide +kernel
theorem zd114_42 : zD 114 42 (.iload_n 2) 1 43 = true := by decide +kernel
theorem zd114_43 : zD 114 43 (.istore_n 2) 1 44 = true := by decide +kernel
theorem zd114_44 : zDi 114 44 47 3 (Int32.ofNat 1) = true := by decide +kernel
theorem zd114_47 : zDj 114 47 4 = true := by decide +kernel
theorem zd114_50 : zD 114 50 (.iload_n 2) 1 51 = true := by decide +kernel
theorem zd114_51 : zD 114 51 (.iload_n 2) 1 52 = true := by decide +kernel
theorem zd114_52 : zDc 114 52 53 (Int32.ofNat 1) = true := by decide +kernel
theorem zd114_53 : zD 114 53 .isub 1 54 = true := by decide +kernel
theorem zd114_54 : zD 114 54 .iand 1 55 = true := by decide +kernel
theorem zd114_55 : zDf 114 55 .eq 62 58 = true := by decide +kernel
theorem zd114_58 : zDc 114 58 59 (Int32.ofNat 1) = true := by decide +kernel
theorem zd114_59 : zDj 114 59 63 = true := by decide +kernel
theorem zd114_62 : zDc 114 62 63 (Int32.ofNat 0) = true := by decide +kernel
theorem zd114_63 : zD 114 63 .ireturn 1 64 = true := by decide +kernel
theorem zd115_0 : zD 115 0 (.aload_n 0) 1 1 = true := by decide +kernel
theorem zd115_1 : zD 115 1 (.aload_n 0) 1 2 = true := by decide +kernel
theorem zd115_2 : zD 115 2 (.iload_n 1) 1 3 = true := by decide +kernel
theorem zd115_3 : zDk 115 3 6 100 0 = true := by decide +kernel
theorem zd115_6 : zDf 115 6 .eq 13 9 = true := by decide +kernel
theorem zd115_9 : zDc 115 9 10 (Int32.ofNat 0) = true := by decide +kernel
theorem zd115_10 : zDj 115 10 14 = true := by decide +kernel
theorem zd115_13 : zDc 115 13 14 (Int32.ofNat 1) = true := by decide +kernel
theorem zd115_14 : zDp 115 14 17 7 0 (.int) = true := by decide +kernel
theorem zd115_17 : zD 115 17 (.aload_n 0) 1 18 = true := by decide +kernel
theorem zd115_18 : zDg 115 18 21 7 0 (.int) = true := by decide +kernel
theorem zd115_21 : zDf 115 21 .eq 26 24 = true := by decide +kernel
theorem zd115_24 : zDc 115 24 25 (Int32.ofNat 0) = true := by decide +kernel
theorem zd115_25 : zD 115 25 .ireturn 1 26 = true := by decide +kernel
theorem zd115_26 : zD 115 26 (.aload_n 0) 1 27 = true := by decide +kernel
theorem zd115_27 : zDg 115 27 30 7 20 (.array .boolean) = true := by decide +kernel
theorem zd115_30 : zD 115 30 (.iload_n 1) 1 31 = true := by decide +kernel
theorem zd115_31 : zD 115 31 .baload 1 32 = true := by decide +kernel
theorem zd115_32 : zDf 115 32 .eq 37 35 = true := by decide +kernel
theorem zd115_35 : zDc 115 35 36 (-1) = true := by decide +kernel
theorem zd115_36 : zD 115 36 .ireturn 1 37 = true := by decide +kernel
theorem zd115_37 : zD 115 37 (.aload_n 0) 1 38 = true := by decide +kernel
theorem zd115_38 : zDg 115 38 41 7 20 (.array .boolean) = true := by decide +kernel
theorem zd115_41 : zD 115 41 (.iload_n 1) 1 42 = true := by decide +kernel
theorem zd115_42 : zDc 115 42 43 (Int32.ofNat 1) = true := by decide +kernel
theorem zd115_43 : zD 115 43 .bastore 1 44 = true := by decide +kernel
theorem zd115_44 : zD 115 44 (.aload_n 0) 1 45 = true := by decide +kernel
theorem zd115_45 : zD 115 45 .dup 1 46 = true := by decide +kernel
theorem zd115_46 : zDg 115 46 49 7 21 (.int) = true := by decide +kernel
theorem zd115_49 : zDc 115 49 50 (Int32.ofNat 1) = true := by decide +kernel
theorem zd115_50 : zD 115 50 .iadd 1 51 = true := by decide +kernel
theorem zd115_51 : zDp 115 51 54 7 21 (.int) = true := by decide +kernel
theorem zd115_54 : zD 115 54 (.aload_n 0) 1 55 = true := by decide +kernel
theorem zd115_55 : zD 115 55 (.iload_n 1) 1 56 = true := by decide +kernel
theorem zd115_56 : zDc 115 56 57 (Int32.ofNat 2) = true := by decide +kernel
theorem zd115_57 : zDc 115 57 58 (-1) = true := by decide +kernel
theorem zd115_58 : zDc 115 58 59 (-1) = true := by decide +kernel
theorem zd115_59 : zDk 115 59 62 113 0 = true := by decide +kernel
theorem zd115_62 : zD 115 62 (.aload_n 0) 1 63 = true := by decide +kernel
theorem zd115_63 : zDg 115 63 66 7 21 (.int) = true := by decide +kernel
theorem zd115_66 : zD 115 66 .ireturn 1 67 = true := by decide +kernel
theorem zd116_0 : zD 116 0 (.aload_n 0) 1 1 = true := by decide +kernel
theorem zd116_1 : zD 116 1 (.aload_n 0) 1 2 = true := by decide +kernel
theorem zd116_2 : zD 116 2 (.iload_n 1) 1 3 = true := by decide +kernel
theorem zd116_3 : zDk 116 3 6 100 0 = true := by decide +kernel
theorem zd116_6 : zDf 116 6 .eq 13 9 = true := by decide +kernel
theorem zd116_9 : zDc 116 9 10 (Int32.ofNat 0) = true := by decide +kernel
theorem zd116_10 : zDj 116 10 14 = true := by decide +kernel
theorem zd116_13 : zDc 116 13 14 (Int32.ofNat 1) = true := by decide +kernel
theorem zd116_14 : zDp 116 14 17 7 0 (.int) = true := by decide +kernel
theorem zd116_17 : zD 116 17 (.aload_n 0) 1 18 = true := by decide +kernel
theorem zd116_18 : zDg 116 18 21 7 0 (.int) = true := by decide +kernel
theorem zd116_21 : zDf 116 21 .eq 26 24 = true := by decide +kernel
theorem zd116_24 : zDc 116 24 25 (Int32.ofNat 0) = true := by decide +kernel
theorem zd116_25 : zD 116 25 .ireturn 1 26 = true := by decide +kernel
theorem zd116_26 : zD 116 26 (.aload_n 0) 1 27 = true := by decide +kernel
theorem zd116_27 : zDg 116 27 30 7 20 (.array .boolean) = true := by decide +kernel
theorem zd116_30 : zD 116 30 (.iload_n 1) 1 31 = true := by decide +kernel
theorem zd116_31 : zD 116 31 .baload 1 32 = true := by decide +kernel
theorem zd116_32 : zDf 116 32 .ne 52 35 = true := by decide +kernel
theorem zd116_35 : zD 116 35 (.aload_n 0) 1 36 = true := by decide +kernel
theorem zd116_36 : zD 116 36 (.iload_n 1) 1 37 = true := by decide +kernel
theorem zd116_37 : zDk 116 37 40 114 0 = true := by decide +kernel
theorem zd116_40 : zDf 116 40 .eq 52 43 = true := by decide +kernel
theorem zd116_43 : zD 116 43 (.aload_n 0) 1 44 = true := by decide +kernel
theorem zd116_44 : zDg 116 44 47 7 22 (.int) = true := by decide +kernel
theorem zd116_47 : zDc 116 47 49 (Int32.ofNat 60) = true := by decide +kernel
theorem zd116_49 : zDm 116 49 .ne 54 52 = true := by decide +kernel
theorem zd116_52 : zDc 116 52 53 (-1) = true := by decide +kernel
theorem zd116_53 : zD 116 53 .ireturn 1 54 = true := by decide +kernel
theorem zd116_54 : zD 116 54 (.aload_n 0) 1 55 = true := by decide +kernel
theorem zd116_55 : zDg 116 55 58 7 23 (.array .int) = true := by decide +kernel
theorem zd116_58 : zD 116 58 (.aload_n 0) 1 59 = true := by decide +kernel
theorem zd116_59 : zDg 116 59 62 7 22 (.int) = true := by decide +kernel
theorem zd116_62 : zD 116 62 (.iload_n 1) 1 63 = true := by decide +kernel
theorem zd116_63 : zD 116 63 .iastore 1 64 = true := by decide +kernel
theorem zd116_64 : zD 116 64 (.aload_n 0) 1 65 = true := by decide +kernel
theorem zd116_65 : zD 116 65 (.iload_n 1) 1 66 = true := by decide +kernel
theorem zd116_66 : zDc 116 66 67 (Int32.ofNat 1) = true := by decide +kernel
theorem zd116_67 : zD 116 67 (.aload_n 0) 1 68 = true := by decide +kernel
theorem zd116_68 : zDg 116 68 71 7 22 (.int) = true := by decide +kernel
theorem zd116_71 : zDc 116 71 72 (-1) = true := by decide +kernel
theorem zd116_72 : zDk 116 72 75 113 0 = true := by decide +kernel
theorem zd116_75 : zD 116 75 (.aload_n 0) 1 76 = true := by decide +kernel
theorem zd116_76 : zD 116 76 .dup 1 77 = true := by decide +kernel
theorem zd116_77 : zDg 116 77 80 7 22 (.int) = true := by decide +kernel
theorem zd116_80 : zDc 116 80 81 (Int32.ofNat 1) = true := by decide +kernel
theorem zd116_81 : zD 116 81 .iadd 1 82 = true := by decide +kernel
theorem zd116_82 : zDp 116 82 85 7 22 (.int) = true := by decide +kernel
theorem zd116_85 : zD 116 85 (.aload_n 0) 1 86 = true := by decide +kernel
theorem zd116_86 : zDg 116 86 89 7 22 (.int) = true := by decide +kernel
theorem zd116_89 : zDc 116 89 90 (Int32.ofNat 1) = true := by decide +kernel
theorem zd116_90 : zD 116 90 .isub 1 91 = true := by decide +kernel
theorem zd116_91 : zD 116 91 .ireturn 1 92 = true := by decide +kernel
theorem zd117_0 : zD 117 0 (.aload_n 0) 1 1 = true := by decide +kernel
theorem zd117_1 : zD 117 1 (.iload_n 1) 1 2 = true := by decide +kernel
theorem zd117_2 : zDf 117 2 .lt 26 5 = true := by decide +kernel
theorem zd117_5 : zD 117 5 (.iload_n 1) 1 6 = true := by decide +kernel
theorem zd117_6 : zD 117 6 (.aload_n 0) 1 7 = true := by decide +kernel
theorem zd117_7 : zDg 117 7 10 7 22 (.int) = true := by decide +kernel
theorem zd117_10 : zDm 117 10 .ge 26 13 = true := by decide +kernel
theorem zd117_13 : zD 117 13 (.iload_n 3) 1 14 = true := by decide +kernel
theorem zd117_14 : zDf 117 14 .lt 26 17 = true := by decide +kernel
theorem zd117_17 : zD 117 17 (.iload_n 3) 1 18 = true := by decide +kernel
theorem zd117_18 : zDc 117 18 19 (Int32.ofNat 3) = true := by decide +kernel
theorem zd117_19 : zDm 117 19 .ge 26 22 = true := by decide +kernel
theorem zd117_22 : zDc 117 22 23 (Int32.ofNat 0) = true := by decide +kernel
theorem zd117_23 : zDj 117 23 27 = true := by decide +kernel
theorem zd117_26 : zDc 117 26 27 (Int32.ofNat 1) = true := by decide +kernel
theorem zd117_27 : zDp 117 27 30 7 0 (.int) = true := by decide +kernel
theorem zd117_30 : zD 117 30 (.aload_n 0) 1 31 = true := by decide +kernel
theorem zd117_31 : zDg 117 31 34 7 0 (.int) = true := by decide +kernel
theorem zd117_34 : zDf 117 34 .eq 39 37 = true := by decide +kernel
theorem zd117_37 : zDc 117 37 38 (Int32.ofNat 0) = true := by decide +kernel
theorem zd117_38 : zD 117 38 .ireturn 1 39 = true := by decide +kernel
theorem zd117_39 : zD 117 39 (.iload_n 2) 1 40 = true := by decide +kernel
theorem zd117_40 : zD 117 40 (.istore 4) 2 42 = true := by decide +kernel
theorem zd117_42 : zDc 117 42 43 (Int32.ofNat 0) = true := by decide +kernel
theorem zd117_43 : zD 117 43 (.istore 5) 2 45 = true := by decide +kernel
theorem zd117_45 : zD 117 45 (.iload 5) 2 47 = true := by decide +kernel
theorem zd117_47 : zD 117 47 (.aload_n 0) 1 48 = true := by decide +kernel
theorem zd117_48 : zDg 117 48 51 7 24 (.int) = true := by decide +kernel
theorem zd117_51 : zDm 117 51 .ge 128 54 = true := by decide +kernel
theorem zd117_54 : zD 117 54 (.iload_n 2) 1 55 = true := by decide +kernel
theorem zd117_55 : zDf 117 55 .lt 128 58 = true := by decide +kernel
theorem zd117_58 : zD 117 58 (.aload_n 0) 1 59 = true := by decide +kernel
theorem zd117_59 : zDg 117 59 62 7 25 (.array .int) = true := by decide +kernel
theorem zd117_62 : zD 117 62 (.iload 5) 2 64 = true := by decide +kernel
theorem zd117_64 : zD 117 64 .iaload 1 65 = true := by decide +kernel
theorem zd117_65 : zD 117 65 (.aload_n 0) 1 66 = true := by decide +kernel
theorem zd117_66 : zDg 117 66 69 7 23 (.array .int) = true := by decide +kernel
theorem zd117_69 : zD 117 69 (.iload_n 1) 1 70 = true := by decide +kernel
theorem zd117_70 : zD 117 70 .iaload 1 71 = true := by decide +kernel
theorem zd117_71 : zDm 117 71 .eq 77 74 = true := by decide +kernel
theorem zd117_74 : zDj 117 74 122 = true := by decide +kernel
theorem zd117_77 : zD 117 77 (.iload 4) 2 79 = true := by decide +kernel
theorem zd117_79 : zDf 117 79 .ne 119 82 = true := by decide +kernel
theorem zd117_82 : zD 117 82 (.iload_n 3) 1 83 = true := by decide +kernel
theorem zd117_83 : zDf 117 83 .ne 96 86 = true := by decide +kernel
theorem zd117_86 : zD 117 86 (.aload_n 0) 1 87 = true := by decide +kernel
theorem zd117_87 : zDg 117 87 90 7 26 (.array .int) = true := by decide +kernel
theorem zd117_90 : zD 117 90 (.iload 5) 2 92 = true := by decide +kernel
theorem zd117_92 : zD 117 92 .iaload 1 93 = true := by decide +kernel
theorem zd117_93 : zDj 117 93 118 = true := by decide +kernel
theorem zd117_96 : zD 117 96 (.iload_n 3) 1 97 = true := by decide +kernel
theorem zd117_97 : zDc 117 97 98 (Int32.ofNat 1) = true := by decide +kernel
theorem zd117_98 : zDm 117 98 .ne 111 101 = true := by decide +kernel
theorem zd117_101 : zD 117 101 (.aload_n 0) 1 102 = true := by decide +kernel
theorem zd117_102 : zDg 117 102 105 7 27 (.array .int) = true := by decide +kernel
theorem zd117_105 : zD 117 105 (.iload 5) 2 107 = true := by decide +kernel
theorem zd117_107 : zD 117 107 .iaload 1 108 = true := by decide +kernel
theorem zd117_108 : zDj 117 108 118 = true := by decide +kernel
theorem zd117_111 : zD 117 111 (.aload_n 0) 1 112 = true := by decide +kernel
theorem zd117_112 : zDg 117 112 115 7 28 (.array .int) = true := by decide +kernel
theorem zd117_115 : zD 117 115 (.iload 5) 2 117 = true := by decide +kernel
theorem zd117_117 : zD 117 117 .iaload 1 118 = true := by decide +kernel
theorem zd117_118 : zD 117 118 .ireturn 1 119 = true := by decide +kernel
theorem zd117_119 : zDi 117 119 122 4 (-(Int32.ofNat 1)) = true := by decide +kernel
theorem zd117_122 : zDi 117 122 125 5 (Int32.ofNat 1) = true := by decide +kernel
theorem zd117_125 : zDj 117 125 45 = true := by decide +kernel
theorem zd117_128 : zDc 117 128 129 (-1) = true := by decide +kernel
theorem zd117_129 : zD 117 129 .ireturn 1 130 = true := by decide +kernel
theorem zd118_0 : zD 118 0 (.aload_n 0) 1 1 = true := by decide +kernel
theorem zd118_1 : zD 118 1 (.iload_n 1) 1 2 = true := by decide +kernel
theorem zd118_2 : zDf 118 2 .lt 26 5 = true := by decide +kernel
theorem zd118_5 : zD 118 5 (.iload_n 1) 1 6 = true := by decide +kernel
theorem zd118_6 : zD 118 6 (.iload_n 2) 1 7 = true := by decide +kernel
theorem zd118_7 : zDm 118 7 .gt 26 10 = true := by decide +kernel
theorem zd118_10 : zD 118 10 (.iload_n 2) 1 11 = true := by decide +kernel
theorem zd118_11 : zD 118 11 (.aload_n 0) 1 12 = true := by decide +kernel
theorem zd118_12 : zDg 118 12 15 7 8 (.int) = true := by decide +kernel
theorem zd118_15 : zDm 118 15 .gt 26 18 = true := by decide +kernel
theorem zd118_18 : zD 118 18 (.iload_n 3) 1 19 = true := by decide +kernel
theorem zd118_19 : zDf 118 19 .lt 26 22 = true := by decide +kernel
theorem zd118_22 : zDc 118 22 23 (Int32.ofNat 0) = true := by decide +kernel
theorem zd118_23 : zDj 118 23 27 = true := by decide +kernel
theorem zd118_26 : zDc 118 26 27 (Int32.ofNat 1) = true := by decide +kernel
theorem zd118_27 : zDp 118 27 30 7 0 (.int) = true := by decide +kernel
theorem zd118_30 : zD 118 30 (.aload_n 0) 1 31 = true := by decide +kernel
theorem zd118_31 : zDg 118 31 34 7 0 (.int) = true := by decide +kernel
theorem zd118_34 : zDf 118 34 .eq 39 37 = true := by decide +kernel
theorem zd118_37 : zDc 118 37 38 (Int32.ofNat 0) = true := by decide +kernel
theorem zd118_38 : zD 118 38 .ireturn 1 39 = true := by decide +kernel
theorem zd118_39 : zD 118 39 (.aload_n 0) 1 40 = true := by decide +kernel
theorem zd118_40 : zD 118 40 (.iload_n 3) 1 41 = true := by decide +kernel
theorem zd118_41 : zDk 118 41 44 104 0 = true := by decide +kernel
theorem zd118_44 : zD 118 44 (.aload_n 0) 1 45 = true := by decide +kernel
theorem zd118_45 : zD 118 45 (.iload_n 1) 1 46 = true := by decide +kernel
theorem zd118_46 : zDk 118 46 49 119 0 = true := by decide +kernel
theorem zd118_49 : zDc 118 49 50 (Int32.ofNat 0) = true := by decide +kernel
theorem zd118_50 : zD 118 50 (.istore 4) 2 52 = true := by decide +kernel
theorem zd118_52 : zD 118 52 (.iload 4) 2 54 = true := by decide +kernel
theorem zd118_54 : zDc 118 54 56 (Int32.ofNat 32) = true := by decide +kernel
theorem zd118_56 : zDm 118 56 .ge 76 59 = true := by decide +kernel
theorem zd118_59 : zD 118 59 (.aload_n 0) 1 60 = true := by decide +kernel
theorem zd118_60 : zD 118 60 (.aload_n 0) 1 61 = true := by decide +kernel
theorem zd118_61 : zDg 118 61 64 7 7 (.array .int) = true := by decide +kernel
theorem zd118_64 : zD 118 64 (.iload 4) 2 66 = true := by decide +kernel
theorem zd118_66 : zD 118 66 .iaload 1 67 = true := by decide +kernel
theorem zd118_67 : zDk 118 67 70 106 0 = true := by decide +kernel
theorem zd118_70 : zDi 118 70 73 4 (Int32.ofNat 1) = true := by decide +kernel
theorem zd118_73 : zDj 118 73 52 = true := by decide +kernel
theorem zd118_76 : zDc 118 76 78 (Int32.ofNat 32) = true := by decide +kernel
theorem zd118_78 : zD 118 78 (.iload_n 1) 1 79 = true := by decide +kernel
theorem zd118_79 : zD 118 79 .imul 1 80 = true := by decide +kernel
theorem zd118_80 : zD 118 80 (.istore 4) 2 82 = true := by decide +kernel
theorem zd118_82 : zD 118 82 (.iload 4) 2 84 = true := by decide +kernel
theorem zd118_84 : zDc 118 84 86 (Int32.ofNat 32) = true := by decide +kernel
theorem zd118_86 : zD 118 86 (.iload_n 2) 1 87 = true := by decide +kernel
theorem zd118_87 : zD 118 87 .imul 1 88 = true := by decide +kernel
theorem zd118_88 : zDm 118 88 .ge 108 91 = true := by decide +kernel
theorem zd118_91 : zD 118 91 (.aload_n 0) 1 92 = true := by decide +kernel
theorem zd118_92 : zD 118 92 (.aload_n 0) 1 93 = true := by decide +kernel
theorem zd118_93 : zDg 118 93 96 7 14 (.array .int) = true := by decide +kernel
theorem zd118_96 : zD 118 96 (.iload 4) 2 98 = true := by decide +kernel
theorem zd118_98 : zD 118 98 .iaload 1 99 = true := by decide +kernel
theorem zd118_99 : zDk 118 99 102 106 0 = true := by decide +kernel
theorem zd118_102 : zDi 118 102 105 4 (Int32.ofNat 1) = true := by decide +kernel
theorem zd118_105 : zDj 118 105 82 = true := by decide +kernel
theorem zd118_108 : zD 118 108 (.aload_n 0) 1 109 = true := by decide +kernel
theorem zd118_109 : zD 118 109 (.iload_n 2) 1 110 = true := by decide +kernel
theorem zd118_110 : zDk 118 110 113 119 0 = true := by decide +kernel
theorem zd118_113 : zDc 118 113 114 (Int32.ofNat 0) = true := by decide +kernel
theorem zd118_114 : zD 118 114 (.istore 4) 2 116 = true := by decide +kernel
theorem zd118_116 : zD 118 116 (.iload 4) 2 118 = true := by decide +kernel
theorem zd118_118 : zDc 118 118 120 (Int32.ofNat 32) = true := by decide +kernel
theorem zd118_120 : zDm 118 120 .ge 140 123 = true := by decide +kernel
theorem zd118_123 : zD 118 123 (.aload_n 0) 1 124 = true := by decide +kernel
theorem zd118_124 : zD 118 124 (.aload_n 0) 1 125 = true := by decide +kernel
theorem zd118_125 : zDg 118 125 128 7 7 (.array .int) = true := by decide +kernel
theorem zd118_128 : zD 118 128 (.iload 4) 2 130 = true := by decide +kernel
theorem zd118_130 : zD 118 130 .iaload 1 131 = true := by decide +kernel
theorem zd118_131 : zDk 118 131 134 106 0 = true := by decide +kernel
theorem zd118_134 : zDi 118 134 137 4 (Int32.ofNat 1) = true := by decide +kernel
theorem zd118_137 : zDj 118 137 116 = true := by decide +kernel
theorem zd118_140 : zD 118 140 (.aload_n 0) 1 141 = true := by decide +kernel
theorem zd118_141 : zDg 118 141 144 7 31 (.int) = true := by decide +kernel
theorem zd118_144 : zD 118 144 .ireturn 1 145 = true := by decide +kernel
theorem zd119_0 : zD 119 0 (.aload_n 0) 1 1 = true := by decide +kernel
theorem zd119_1 : zDk 119 1 4 92 0 = true := by decide +kernel
theorem zd119_4 : zDc 119 4 5 (Int32.ofNat 0) = true := by decide +kernel
theorem zd119_5 : zD 119 5 (.istore_n 2) 1 6 = true := by decide +kernel
theorem zd119_6 : zD 119 6 (.iload_n 2) 1 7 = true := by decide +kernel
theorem zd119_7 : zD 119 7 (.iload_n 1) 1 8 = true := by decide +kernel
theorem zd119_8 : zDm 119 8 .ge 42 11 = true := by decide +kernel
theorem zd119_11 : zD 119 11 (.aload_n 0) 1 12 = true := by decide +kernel
theorem zd119_12 : zD 119 12 (.aload_n 0) 1 13 = true := by decide +kernel
theorem zd119_13 : zDg 119 13 16 7 7 (.array .int) = true := by decide +kernel
theorem zd119_16 : zDc 119 16 17 (Int32.ofNat 0) = true := by decide +kernel
theorem zd119_17 : zDk 119 17 20 97 0 = true := by decide +kernel
theorem zd119_20 : zD 119 20 (.aload_n 0) 1 21 = true := by decide +kernel
theorem zd119_21 : zD 119 21 (.aload_n 0) 1 22 = true := by decide +kernel
theorem zd119_22 : zDg 119 22 25 7 14 (.array .int) = true := by decide +kernel
theorem zd119_25 : zDc 119 25 27 (Int32.ofNat 32) = true := by decide +kernel
theorem zd119_27 : zD 119 27 (.iload_n 2) 1 28 = true := by decide +kernel
theorem zd119_28 : zD 119 28 .imul 1 29 = true := by decide +kernel
theorem zd119_29 : zDk 119 29 32 97 0 = true := by decide +kernel
theorem zd119_32 : zD 119 32 (.aload_n 0) 1 33 = true := by decide +kernel
theorem zd119_33 : zDk 119 33 36 92 0 = true := by decide +kernel
theorem zd119_36 : zDi 119 36 39 2 (Int32.ofNat 1) = true := by decide +kernel
theorem zd119_39 : zDj 119 39 6 = true := by decide +kernel
theorem zd119_42 : zD 119 42 .return_ 1 43 = true := by decide +kernel
theorem zd120_0 : zD 120 0 (.aload_n 0) 1 1 = true := by decide +kernel
theorem zd120_1 : zD 120 1 (.aload_n 0) 1 2 = true := by decide +kernel
theorem zd120_2 : zD 120 2 (.iload_n 1) 1 3 = true := by decide +kernel
theorem zd120_3 : zD 120 3 (.iload_n 2) 1 4 = true := by decide +kernel
theorem zd120_4 : zDk 120 4 7 102 0 = true := by decide +kernel
theorem zd120_7 : zDf 120 7 .eq 14 10 = true := by decide +kernel
theorem zd120_10 : zDc 120 10 11 (Int32.ofNat 0) = true := by decide +kernel
theorem zd120_11 : zDj 120 11 15 = true := by decide +kernel
theorem zd120_14 : zDc 120 14 15 (Int32.ofNat 1) = true := by decide +kernel
theorem zd120_15 : zDp 120 15 18 7 0 (.int) = true := by decide +kernel
theorem zd120_18 : zD 120 18 (.aload_n 0) 1 19 = true := by decide +kernel
theorem zd120_19 : zDg 120 19 22 7 0 (.int) = true := by decide +kernel
theorem zd120_22 : zDf 120 22 .eq 27 25 = true := by decide +kernel
theorem zd120_25 : zDc 120 25 26 (Int32.ofNat 0) = true := by decide +kernel
theorem zd120_26 : zD 120 26 .ireturn 1 27 = true := by decide +kernel
theorem zd120_27 : zDc 120 27 29 (Int32.ofNat 8) = true := by decide +kernel
theorem zd120_29 : zD 120 29 (.iload_n 1) 1 30 = true := by decide +kernel
theorem zd120_30 : zD 120 30 .imul 1 31 = true := by decide +kernel
theorem zd120_31 : zD 120 31 (.iload_n 2) 1 32 = true := by decide +kernel
theorem zd120_32 : zD 120 32 .iadd 1 33 = true := by decide +kernel
theorem zd120_33 : zD 120 33 (.istore_n 3) 1 34 = true := by decide +kernel
theorem zd120_34 : zD 120 34 (.iload_n 1) 1 35 = true := by decide +kernel
theorem zd120_35 : zDf 120 35 .ne 42 38 = true := by decide +kernel
theorem zd120_38 : zDc 120 38 39 (-1) = true := by decide +kernel
theorem zd120_39 : zDj 120 39 55 = true := by decide +kernel
theorem zd120_42 : zD 120 42 (.aload_n 0) 1 43 = true := by decide +kernel
theorem zd120_43 : zD 120 43 (.iload_n 1) 1 44 = true := by decide +kernel
theorem zd120_44 : zDc 120 44 45 (Int32.ofNat 1) = true := by decide +kernel
theorem zd120_45 : zD 120 45 .isub 1 46 = true := by decide +kernel
theorem zd120_46 : zD 120 46 (.aload_n 0) 1 47 = true := by decide +kernel
theorem zd120_47 : zDg 120 47 50 7 10 (.array .int) = true := by decide +kernel
theorem zd120_50 : zD 120 50 (.iload_n 3) 1 51 = true := by decide +kernel
theorem zd120_51 : zD 120 51 .iaload 1 52 = true := by decide +kernel
theorem zd120_52 : zDk 120 52 55 85 0 = true := by decide +kernel
theorem zd120_55 : zD 120 55 (.istore 4) 2 57 = true := by decide +kernel
theorem zd120_57 : zD 120 57 (.iload 4) 2 59 = true := by decide +kernel
theorem zd120_59 : zDc 120 59 60 (-1) = true := by decide +kernel
theorem zd120_60 : zDm 120 60 .ne 65 63 = true := by decide +kernel
theorem zd120_63 : zDc 120 63 64 (Int32.ofNat 2) = true := by decide +kernel
theorem zd120_64 : zD 120 64 .ireturn 1 65 = true := by decide +kernel
theorem zd120_65 : zDc 120 65 67 (Int32.ofNat 8) = true := by decide +kernel
theorem zd120_67 : zD 120 67 (.iload_n 1) 1 68 = true := by decide +kernel
theorem zd120_68 : zDc 120 68 69 (Int32.ofNat 1) = true := by decide +kernel
theorem zd120_69 : zD 120 69 .isub 1 70 = true := by decide +kernel
theorem zd120_70 : zD 120 70 .imul 1 71 = true := by decide +kernel
theorem zd120_71 : zD 120 71 (.iload 4) 2 73 = true := by decide +kernel
theorem zd120_73 : zD 120 73 .iadd 1 74 = true := by decide +kernel
theorem zd120_74 : zD 120 74 (.istore 5) 2 76 = true := by decide +kernel
theorem zd120_76 : zD 120 76 (.aload_n 0) 1 77 = true := by decide +kernel
theorem zd120_77 : zDg 120 77 80 7 11 (.array .int) = true := by decide +kernel
theorem zd120_80 : zD 120 80 (.iload_n 3) 1 81 = true := by decide +kernel
theorem zd120_81 : zD 120 81 .iaload 1 82 = true := by decide +kernel
theorem zd120_82 : zD 120 82 (.aload_n 0) 1 83 = true := by decide +kernel
theorem zd120_83 : zDg 120 83 86 7 11 (.array .int) = true := by decide +kernel
theorem zd120_86 : zD 120 86 (.iload 5) 2 88 = true := by decide +kernel
theorem zd120_88 : zD 120 88 .iaload 1 89 = true := by decide +kernel
theorem zd120_89 : zDm 120 89 .ne 96 92 = true := by decide +kernel
theorem zd120_92 : zDc 120 92 93 (Int32.ofNat 1) = true := by decide +kernel
theorem zd120_93 : zDj 120 93 97 = true := by decide +kernel
theorem zd120_96 : zDc 120 96 97 (Int32.ofNat 0) = true := by decide +kernel
theorem zd120_97 : zD 120 97 (.istore 6) 2 99 = true := by decide +kernel
theorem zd120_99 : zDc 120 99 100 (Int32.ofNat 0) = true := by decide +kernel
theorem zd120_100 : zD 120 100 (.istore 7) 2 102 = true := by decide +kernel
theorem zd120_102 : zD 120 102 (.iload 7) 2 104 = true := by decide +kernel
theorem zd120_104 : zD 120 104 (.aload_n 0) 1 105 = true := by decide +kernel
theorem zd120_105 : zDg 120 105 108 7 11 (.array .int) = true := by decide +kernel
theorem zd120_108 : zD 120 108 (.iload_n 3) 1 109 = true := by decide +kernel
theorem zd120_109 : zD 120 109 .iaload 1 110 = true := by decide +kernel
theorem zd120_110 : zDm 120 110 .ge 159 113 = true := by decide +kernel
theorem zd120_113 : zD 120 113 (.iload 6) 2 115 = true := by decide +kernel
theorem zd120_115 : zDf 120 115 .eq 159 118 = true := by decide +kernel
theorem zd120_118 : zD 120 118 (.aload_n 0) 1 119 = true := by decide +kernel
theorem zd120_119 : zDg 120 119 122 7 12 (.array .int) = true := by decide +kernel
theorem zd120_122 : zDc 120 122 124 (Int32.ofNat 64) = true := by decide +kernel
theorem zd120_124 : zD 120 124 (.iload_n 3) 1 125 = true := by decide +kernel
theorem zd120_125 : zD 120 125 .imul 1 126 = true := by decide +kernel
theorem zd120_126 : zD 120 126 (.iload 7) 2 128 = true := by decide +kernel
theorem zd120_128 : zD 120 128 .iadd 1 129 = true := by decide +kernel
theorem zd120_129 : zD 120 129 .iaload 1 130 = true := by decide +kernel
theorem zd120_130 : zD 120 130 (.aload_n 0) 1 131 = true := by decide +kernel
theorem zd120_131 : zDg 120 131 134 7 12 (.array .int) = true := by decide +kernel
theorem zd120_134 : zDc 120 134 136 (Int32.ofNat 64) = true := by decide +kernel
theorem zd120_136 : zD 120 136 (.iload 5) 2 138 = true := by decide +kernel
theorem zd120_138 : zD 120 138 .imul 1 139 = true := by decide +kernel
theorem zd120_139 : zD 120 139 (.iload 7) 2 141 = true := by decide +kernel
theorem zd120_141 : zD 120 141 .iadd 1 142 = true := by decide +kernel
theorem zd120_142 : zD 120 142 .iaload 1 143 = true := by decide +kernel
theorem zd120_143 : zDm 120 143 .ne 150 146 = true := by decide +kernel
theorem zd120_146 : zDc 120 146 147 (Int32.ofNat 1) = true := by decide +kernel
theorem zd120_147 : zDj 120 147 151 = true := by decide +kernel
theorem zd120_150 : zDc 120 150 151 (Int32.ofNat 0) = true := by decide +kernel
theorem zd120_151 : zD 120 151 (.istore 6) 2 153 = true := by decide +kernel
theorem zd120_153 : zDi 120 153 156 7 (Int32.ofNat 1) = true := by decide +kernel
theorem zd120_156 : zDj 120 156 102 = true := by decide +kernel
theorem zd120_159 : zD 120 159 (.iload 6) 2 161 = true := by decide +kernel
theorem zd120_161 : zDf 120 161 .eq 168 164 = true := by decide +kernel
theorem zd120_164 : zDc 120 164 165 (Int32.ofNat 0) = true := by decide +kernel
theorem zd120_165 : zDj 120 165 169 = true := by decide +kernel
theorem zd120_168 : zDc 120 168 169 (Int32.ofNat 1) = true := by decide +kernel
theorem zd120_169 : zD 120 169 .ireturn 1 170 = true := by decide +kernel
