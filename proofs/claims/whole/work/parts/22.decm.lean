/-! The instructions of the reference -/
theorem zd81_0 : zD 81 0 (.aload_n 0) 1 1 = true := by decide +kernel
theorem zd81_1 : zDo 81 1 4 = true := by decide +kernel
theorem zd81_4 : zD 81 4 (.aload_n 0) 1 5 = true := by decide +kernel
theorem zd81_5 : zDc 81 5 7 (Int32.ofNat 64) = true := by decide +kernel
theorem zd81_7 : zD 81 7 (.newarray .int) 2 9 = true := by decide +kernel
theorem zd81_9 : zDp 81 9 12 7 1 (.array .int) = true := by decide +kernel
theorem zd81_12 : zD 81 12 (.aload_n 0) 1 13 = true := by decide +kernel
theorem zd81_13 : zDc 81 13 16 (Int32.ofNat 512) = true := by decide +kernel
theorem zd81_16 : zD 81 16 (.newarray .int) 2 18 = true := by decide +kernel
theorem zd81_18 : zDp 81 18 21 7 3 (.array .int) = true := by decide +kernel
theorem zd81_21 : zD 81 21 (.aload_n 0) 1 22 = true := by decide +kernel
theorem zd81_22 : zDc 81 22 24 (Int32.ofNat 64) = true := by decide +kernel
theorem zd81_24 : zD 81 24 (.newarray .int) 2 26 = true := by decide +kernel
theorem zd81_26 : zDp 81 26 29 7 4 (.array .int) = true := by decide +kernel
theorem zd81_29 : zD 81 29 (.aload_n 0) 1 30 = true := by decide +kernel
theorem zd81_30 : zDc 81 30 32 (Int32.ofNat 8) = true := by decide +kernel
theorem zd81_32 : zD 81 32 (.newarray .int) 2 34 = true := by decide +kernel
theorem zd81_34 : zDp 81 34 37 7 5 (.array .int) = true := by decide +kernel
theorem zd81_37 : zD 81 37 (.aload_n 0) 1 38 = true := by decide +kernel
theorem zd81_38 : zDc 81 38 40 (Int32.ofNat 8) = true := by decide +kernel
theorem zd81_40 : zD 81 40 (.newarray .int) 2 42 = true := by decide +kernel
theorem zd81_42 : zDp 81 42 45 7 6 (.array .int) = true := by decide +kernel
theorem zd81_45 : zD 81 45 (.aload_n 0) 1 46 = true := by decide +kernel
theorem zd81_46 : zDc 81 46 48 (Int32.ofNat 32) = true := by decide +kernel
theorem zd81_48 : zD 81 48 (.newarray .int) 2 50 = true := by decide +kernel
theorem zd81_50 : zDp 81 50 53 7 7 (.array .int) = true := by decide +kernel
theorem zd81_53 : zD 81 53 (.aload_n 0) 1 54 = true := by decide +kernel
theorem zd81_54 : zDc 81 54 56 (Int32.ofNat 11) = true := by decide +kernel
theorem zd81_56 : zD 81 56 (.newarray .int) 2 58 = true := by decide +kernel
theorem zd81_58 : zDp 81 58 61 7 9 (.array .int) = true := by decide +kernel
theorem zd81_61 : zD 81 61 (.aload_n 0) 1 62 = true := by decide +kernel
theorem zd81_62 : zDc 81 62 64 (Int32.ofNat 88) = true := by decide +kernel
theorem zd81_64 : zD 81 64 (.newarray .int) 2 66 = true := by decide +kernel
theorem zd81_66 : zDp 81 66 69 7 10 (.array .int) = true := by decide +kernel
theorem zd81_69 : zD 81 69 (.aload_n 0) 1 70 = true := by decide +kernel
theorem zd81_70 : zDc 81 70 72 (Int32.ofNat 88) = true := by decide +kernel
theorem zd81_72 : zD 81 72 (.newarray .int) 2 74 = true := by decide +kernel
theorem zd81_74 : zDp 81 74 77 7 11 (.array .int) = true := by decide +kernel
theorem zd81_77 : zD 81 77 (.aload_n 0) 1 78 = true := by decide +kernel
theorem zd81_78 : zDc 81 78 81 (Int32.ofNat 5632) = true := by decide +kernel
theorem zd81_81 : zD 81 81 (.newarray .int) 2 83 = true := by decide +kernel
theorem zd81_83 : zDp 81 83 86 7 12 (.array .int) = true := by decide +kernel
theorem zd81_86 : zD 81 86 (.aload_n 0) 1 87 = true := by decide +kernel
theorem zd81_87 : zDc 81 87 90 (Int32.ofNat 2560) = true := by decide +kernel
theorem zd81_90 : zD 81 90 (.newarray .int) 2 92 = true := by decide +kernel
theorem zd81_92 : zDp 81 92 95 7 13 (.array .int) = true := by decide +kernel
theorem zd81_95 : zD 81 95 (.aload_n 0) 1 96 = true := by decide +kernel
theorem zd81_96 : zDc 81 96 99 (Int32.ofNat 320) = true := by decide +kernel
theorem zd81_99 : zD 81 99 (.newarray .int) 2 101 = true := by decide +kernel
theorem zd81_101 : zDp 81 101 104 7 14 (.array .int) = true := by decide +kernel
theorem zd81_104 : zD 81 104 (.aload_n 0) 1 105 = true := by decide +kernel
theorem zd81_105 : zDc 81 105 108 (Int32.ofNat 256) = true := by decide +kernel
theorem zd81_108 : zD 81 108 (.newarray .int) 2 110 = true := by decide +kernel
theorem zd81_110 : zDp 81 110 113 7 16 (.array .int) = true := by decide +kernel
theorem zd81_113 : zD 81 113 (.aload_n 0) 1 114 = true := by decide +kernel
theorem zd81_114 : zDc 81 114 117 (Int32.ofNat 300) = true := by decide +kernel
theorem zd81_117 : zD 81 117 (.newarray .int) 2 119 = true := by decide +kernel
theorem zd81_119 : zDp 81 119 122 7 18 (.array .int) = true := by decide +kernel
theorem zd81_122 : zD 81 122 (.aload_n 0) 1 123 = true := by decide +kernel
theorem zd81_123 : zDc 81 123 126 (Int32.ofNat 160) = true := by decide +kernel
theorem zd81_126 : zD 81 126 (.newarray .int) 2 128 = true := by decide +kernel
theorem zd81_128 : zDp 81 128 131 7 19 (.array .int) = true := by decide +kernel
theorem zd81_131 : zD 81 131 (.aload_n 0) 1 132 = true := by decide +kernel
theorem zd81_132 : zDc 81 132 134 (Int32.ofNat 10) = true := by decide +kernel
theorem zd81_134 : zD 81 134 (.newarray .boolean) 2 136 = true := by decide +kernel
theorem zd81_136 : zDp 81 136 139 7 20 (.array .boolean) = true := by decide +kernel
theorem zd81_139 : zD 81 139 (.aload_n 0) 1 140 = true := by decide +kernel
theorem zd81_140 : zDc 81 140 142 (Int32.ofNat 60) = true := by decide +kernel
theorem zd81_142 : zD 81 142 (.newarray .int) 2 144 = true := by decide +kernel
theorem zd81_144 : zDp 81 144 147 7 23 (.array .int) = true := by decide +kernel
theorem zd81_147 : zD 81 147 (.aload_n 0) 1 148 = true := by decide +kernel
theorem zd81_148 : zDc 81 148 150 (Int32.ofNat 100) = true := by decide +kernel
theorem zd81_150 : zD 81 150 (.newarray .int) 2 152 = true := by decide +kernel
theorem zd81_152 : zDp 81 152 155 7 25 (.array .int) = true := by decide +kernel
theorem zd81_155 : zD 81 155 (.aload_n 0) 1 156 = true := by decide +kernel
theorem zd81_156 : zDc 81 156 158 (Int32.ofNat 100) = true := by decide +kernel
theorem zd81_158 : zD 81 158 (.newarray .int) 2 160 = true := by decide +kernel
theorem zd81_160 : zDp 81 160 163 7 26 (.array .int) = true := by decide +kernel
theorem zd81_163 : zD 81 163 (.aload_n 0) 1 164 = true := by decide +kernel
theorem zd81_164 : zDc 81 164 166 (Int32.ofNat 100) = true := by decide +kernel
theorem zd81_166 : zD 81 166 (.newarray .int) 2 168 = true := by decide +kernel
theorem zd81_168 : zDp 81 168 171 7 27 (.array .int) = true := by decide +kernel
theorem zd81_171 : zD 81 171 (.aload_n 0) 1 172 = true := by decide +kernel
theorem zd81_172 : zDc 81 172 174 (Int32.ofNat 100) = true := by decide +kernel
theorem zd81_174 : zD 81 174 (.newarray .int) 2 176 = true := by decide +kernel
theorem zd81_176 : zDp 81 176 179 7 28 (.array .int) = true := by decide +kernel
theorem zd81_179 : zD 81 179 (.aload_n 0) 1 180 = true := by decide +kernel
theorem zd81_180 : zDc 81 180 181 (Int32.ofNat 0) = true := by decide +kernel
theorem zd81_181 : zDC 81 181 184 (4794697085070296209) = true := by decide +kernel
theorem zd81_184 : zDC 81 184 187 (-5349999486918337627) = true := by decide +kernel
theorem zd81_187 : zDC 81 187 190 (4131703405765792241) = true := by decide +kernel
theorem zd81_190 : zDC 81 190 193 (-7908458776882290987) = true := by decide +kernel
theorem zd81_193 : zDk 81 193 196 82 0 = true := by decide +kernel
theorem zd81_196 : zD 81 196 (.aload_n 0) 1 197 = true := by decide +kernel
theorem zd81_197 : zDc 81 197 199 (Int32.ofNat 8) = true := by decide +kernel
theorem zd81_199 : zDC 81 199 202 (-2880145866557793535) = true := by decide +kernel
theorem zd81_202 : zDC 81 202 205 (2608012711741390275) = true := by decide +kernel
theorem zd81_205 : zDC 81 205 208 (8268148720858477054) = true := by decide +kernel
theorem zd81_208 : zDC 81 208 211 (-7215885185376849548) = true := by decide +kernel
theorem zd81_211 : zDk 81 211 214 82 0 = true := by decide +kernel
theorem zd81_214 : zD 81 214 (.aload_n 0) 1 215 = true := by decide +kernel
theorem zd81_215 : zDc 81 215 217 (Int32.ofNat 16) = true := by decide +kernel
theorem zd81_217 : zDC 81 217 220 (-1973867730000001146) = true := by decide +kernel
theorem zd81_220 : zDC 81 220 223 (1135362055407968716) = true := by decide +kernel
theorem zd81_223 : zDC 81 223 226 (3308224257782482090) = true := by decide +kernel
theorem zd81_226 : zDC 81 226 229 (6679025011744409818) = true := by decide +kernel
theorem zd81_229 : zDk 81 229 232 82 0 = true := by decide +kernel
theorem zd81_232 : zD 81 232 (.aload_n 0) 1 233 = true := by decide +kernel
theorem zd81_233 : zDc 81 233 235 (Int32.ofNat 24) = true := by decide +kernel
theorem zd81_235 : zDC 81 235 238 (-7476448915937442195) = true := by decide +kernel
theorem zd81_238 : zDC 81 238 241 (-5763719354946846777) = true := by decide +kernel
theorem zd81_241 : zDC 81 241 244 (-4116276917527146169) = true := by decide +kernel
theorem zd81_244 : zDC 81 244 247 (489312709404862823) = true := by decide +kernel
theorem zd81_247 : zDk 81 247 250 82 0 = true := by decide +kernel
theorem zd81_250 : zD 81 250 (.aload_n 0) 1 251 = true := by decide +kernel
theorem zd81_251 : zDc 81 251 253 (Int32.ofNat 32) = true := by decide +kernel
theorem zd81_253 : zDC 81 253 256 (2861767655337697592) = true := by decide +kernel
theorem zd81_256 : zDC 81 256 259 (5560940570391088403) = true := by decide +kernel
theorem zd81_259 : zDC 81 259 262 (7280758554198936251) = true := by decide +kernel
theorem zd81_262 : zDC 81 262 265 (-9096487095472345979) = true := by decide +kernel
theorem zd81_265 : zDk 81 265 268 82 0 = true := by decide +kernel
theorem zd81_268 : zD 81 268 (.aload_n 0) 1 269 = true := by decide +kernel
theorem zd81_269 : zDc 81 269 271 (Int32.ofNat 40) = true := by decide +kernel
theorem zd81_271 : zDC 81 271 274 (-6719396338005809589) = true := by decide +kernel
theorem zd81_274 : zDC 81 274 277 (-4446306890599870045) = true := by decide +kernel
theorem zd81_277 : zDC 81 277 280 (-3345356375510677980) = true := by decide +kernel
theorem zd81_280 : zDC 81 280 283 (-860691633158840208) = true := by decide +kernel
theorem zd81_283 : zDk 81 283 286 82 0 = true := by decide +kernel
theorem zd81_286 : zD 81 286 (.aload_n 0) 1 287 = true := by decide +kernel
theorem zd81_287 : zDc 81 287 289 (Int32.ofNat 48) = true := by decide +kernel
theorem zd81_289 : zDC 81 289 292 (1847814047869135880) = true := by decide +kernel
theorem zd81_292 : zDC 81 292 295 (2830643534987574453) = true := by decide +kernel
theorem zd81_295 : zDC 81 295 298 (4115178123771292234) = true := by decide +kernel
theorem zd81_298 : zDC 81 298 301 (6601373596217405427) = true := by decide +kernel
theorem zd81_301 : zDk 81 301 304 82 0 = true := by decide +kernel
theorem zd81_304 : zD 81 304 (.aload_n 0) 1 305 = true := by decide +kernel
theorem zd81_305 : zDc 81 305 307 (Int32.ofNat 56) = true := by decide +kernel
theorem zd81_307 : zDC 81 307 310 (8399075790807196527) = true := by decide +kernel
theorem zd81_310 : zDC 81 310 313 (-8878714635704401400) = true := by decide +kernel
theorem zd81_313 : zDC 81 313 316 (-8016688834709263125) = true := by decide +kernel
theorem zd81_316 : zDC 81 316 319 (-4685533652720715534) = true := by decide +kernel
theorem zd81_319 : zDk 81 319 322 82 0 = true := by decide +kernel
theorem zd81_322 : zD 81 322 .return_ 1 323 = true := by decide +kernel
theorem zd82_0 : zD 82 0 (.aload_n 0) 1 1 = true := by decide +kernel
theorem zd82_1 : zD 82 1 (.iload_n 1) 1 2 = true := by decide +kernel
theorem zd82_2 : zD 82 2 (.lload_n 2) 1 3 = true := by decide +kernel
theorem zd82_3 : zDk 82 3 6 83 0 = true := by decide +kernel
theorem zd82_6 : zD 82 6 (.aload_n 0) 1 7 = true := by decide +kernel
theorem zd82_7 : zD 82 7 (.iload_n 1) 1 8 = true := by decide +kernel
theorem zd82_8 : zDc 82 8 9 (Int32.ofNat 2) = true := by decide +kernel
theorem zd82_9 : zD 82 9 .iadd 1 10 = true := by decide +kernel
theorem zd82_10 : zD 82 10 (.lload 4) 2 12 = true := by decide +kernel
theorem zd82_12 : zDk 82 12 15 83 0 = true := by decide +kernel
theorem zd82_15 : zD 82 15 (.aload_n 0) 1 16 = true := by decide +kernel
theorem zd82_16 : zD 82 16 (.iload_n 1) 1 17 = true := by decide +kernel
theorem zd82_17 : zDc 82 17 18 (Int32.ofNat 4) = true := by decide +kernel
theorem zd82_18 : zD 82 18 .iadd 1 19 = true := by decide +kernel
theorem zd82_19 : zD 82 19 (.lload 6) 2 21 = true := by decide +kernel
theorem zd82_21 : zDk 82 21 24 83 0 = true := by decide +kernel
theorem zd82_24 : zD 82 24 (.aload_n 0) 1 25 = true := by decide +kernel
theorem zd82_25 : zD 82 25 (.iload_n 1) 1 26 = true := by decide +kernel
theorem zd82_26 : zDc 82 26 28 (Int32.ofNat 6) = true := by decide +kernel
theorem zd82_28 : zD 82 28 .iadd 1 29 = true := by decide +kernel
theorem zd82_29 : zD 82 29 (.lload 8) 2 31 = true := by decide +kernel
theorem zd82_31 : zDk 82 31 34 83 0 = true := by decide +kernel
theorem zd82_34 : zD 82 34 .return_ 1 35 = true := by decide +kernel
theorem zd83_0 : zD 83 0 (.aload_n 0) 1 1 = true := by decide +kernel
theorem zd83_1 : zDg 83 1 4 7 1 (.array .int) = true := by decide +kernel
theorem zd83_4 : zD 83 4 (.iload_n 1) 1 5 = true := by decide +kernel
theorem zd83_5 : zD 83 5 (.lload_n 2) 1 6 = true := by decide +kernel
theorem zd83_6 : zDc 83 6 8 (Int32.ofNat 32) = true := by decide +kernel
theorem zd83_8 : zD 83 8 .lshr 1 9 = true := by decide +kernel
theorem zd83_9 : zD 83 9 .l2i 1 10 = true := by decide +kernel
theorem zd83_10 : zD 83 10 .iastore 1 11 = true := by decide +kernel
theorem zd83_11 : zD 83 11 (.aload_n 0) 1 12 = true := by decide +kernel
theorem zd83_12 : zDg 83 12 15 7 1 (.array .int) = true := by decide +kernel
theorem zd83_15 : zD 83 15 (.iload_n 1) 1 16 = true := by decide +kernel
theorem zd83_16 : zDc 83 16 17 (Int32.ofNat 1) = true := by decide +kernel
theorem zd83_17 : zD 83 17 .iadd 1 18 = true := by decide +kernel
theorem zd83_18 : zD 83 18 (.lload_n 2) 1 19 = true := by decide +kernel
theorem zd83_19 : zD 83 19 .l2i 1 20 = true := by decide +kernel
theorem zd83_20 : zD 83 20 .iastore 1 21 = true := by decide +kernel
theorem zd83_21 : zD 83 21 .return_ 1 22 = true := by decide +kernel
theorem zd84_0 : zD 84 0 (.aload_n 0) 1 1 = true := by decide +kernel
theorem zd84_1 : zDg 84 1 4 7 0 (.int) = true := by decide +kernel
theorem zd84_4 : zD 84 4 .ireturn 1 5 = true := by decide +kernel
theorem zd85_0 : zD 85 0 (.aload_n 0) 1 1 = true := by decide +kernel
theorem zd85_1 : zD 85 1 (.iload_n 1) 1 2 = true := by decide +kernel
theorem zd85_2 : zDf 85 2 .lt 15 5 = true := by decide +kernel
theorem zd85_5 : zD 85 5 (.iload_n 1) 1 6 = true := by decide +kernel
theorem zd85_6 : zDc 85 6 8 (Int32.ofNat 65536) = true := by decide +kernel
theorem zd85_8 : zDm 85 8 .ge 15 11 = true := by decide +kernel
theorem zd85_11 : zDc 85 11 12 (Int32.ofNat 0) = true := by decide +kernel
theorem zd85_12 : zDj 85 12 16 = true := by decide +kernel
theorem zd85_15 : zDc 85 15 16 (Int32.ofNat 1) = true := by decide +kernel
theorem zd85_16 : zDp 85 16 19 7 0 (.int) = true := by decide +kernel
theorem zd85_19 : zD 85 19 (.aload_n 0) 1 20 = true := by decide +kernel
theorem zd85_20 : zDg 85 20 23 7 0 (.int) = true := by decide +kernel
theorem zd85_23 : zDf 85 23 .eq 28 26 = true := by decide +kernel
theorem zd85_26 : zDc 85 26 27 (Int32.ofNat 0) = true := by decide +kernel
theorem zd85_27 : zD 85 27 .ireturn 1 28 = true := by decide +kernel
theorem zd85_28 : zD 85 28 (.aload_n 0) 1 29 = true := by decide +kernel
theorem zd85_29 : zDg 85 29 32 7 9 (.array .int) = true := by decide +kernel
theorem zd85_32 : zDc 85 32 34 (Int32.ofNat 10) = true := by decide +kernel
theorem zd85_34 : zD 85 34 .iaload 1 35 = true := by decide +kernel
theorem zd85_35 : zDc 85 35 37 (Int32.ofNat 8) = true := by decide +kernel
theorem zd85_37 : zDm 85 37 .eq 51 40 = true := by decide +kernel
theorem zd85_40 : zD 85 40 (.aload_n 0) 1 41 = true := by decide +kernel
theorem zd85_41 : zDc 85 41 43 (Int32.ofNat 10) = true := by decide +kernel
theorem zd85_43 : zD 85 43 (.iload_n 1) 1 44 = true := by decide +kernel
theorem zd85_44 : zDk 85 44 47 86 0 = true := by decide +kernel
theorem zd85_47 : zDc 85 47 48 (-1) = true := by decide +kernel
theorem zd85_48 : zDm 85 48 .eq 53 51 = true := by decide +kernel
theorem zd85_51 : zDc 85 51 52 (-1) = true := by decide +kernel
theorem zd85_52 : zD 85 52 .ireturn 1 53 = true := by decide +kernel
theorem zd85_53 : zD 85 53 (.aload_n 0) 1 54 = true := by decide +kernel
theorem zd85_54 : zDg 85 54 57 7 10 (.array .int) = true := by decide +kernel
theorem zd85_57 : zDc 85 57 59 (Int32.ofNat 80) = true := by decide +kernel
theorem zd85_59 : zD 85 59 (.aload_n 0) 1 60 = true := by decide +kernel
theorem zd85_60 : zDg 85 60 63 7 9 (.array .int) = true := by decide +kernel
theorem zd85_63 : zDc 85 63 65 (Int32.ofNat 10) = true := by decide +kernel
theorem zd85_65 : zD 85 65 .iaload 1 66 = true := by decide +kernel
theorem zd85_66 : zD 85 66 .iadd 1 67 = true := by decide +kernel
theorem zd85_67 : zD 85 67 (.iload_n 1) 1 68 = true := by decide +kernel
theorem zd85_68 : zD 85 68 .iastore 1 69 = true := by decide +kernel
theorem zd85_69 : zD 85 69 (.aload_n 0) 1 70 = true := by decide +kernel
theorem zd85_70 : zDg 85 70 73 7 11 (.array .int) = true := by decide +kernel
theorem zd85_73 : zDc 85 73 75 (Int32.ofNat 80) = true := by decide +kernel
theorem zd85_75 : zD 85 75 (.aload_n 0) 1 76 = true := by decide +kernel
theorem zd85_76 : zDg 85 76 79 7 9 (.array .int) = true := by decide +kernel
theorem zd85_79 : zDc 85 79 81 (Int32.ofNat 10) = true := by decide +kernel
theorem zd85_81 : zD 85 81 .iaload 1 82 = true := by decide +kernel
theorem zd85_82 : zD 85 82 .iadd 1 83 = true := by decide +kernel
theorem zd85_83 : zDc 85 83 84 (Int32.ofNat 0) = true := by decide +kernel
theorem zd85_84 : zD 85 84 .iastore 1 85 = true := by decide +kernel
theorem zd85_85 : zD 85 85 (.aload_n 0) 1 86 = true := by decide +kernel
theorem zd85_86 : zDg 85 86 89 7 9 (.array .int) = true := by decide +kernel
theorem zd85_89 : zDc 85 89 91 (Int32.ofNat 10) = true := by decide +kernel
theorem zd85_91 : zD 85 91 .dup2 1 92 = true := by decide +kernel
theorem zd85_92 : zD 85 92 .iaload 1 93 = true := by decide +kernel
theorem zd85_93 : zDc 85 93 94 (Int32.ofNat 1) = true := by decide +kernel
theorem zd85_94 : zD 85 94 .iadd 1 95 = true := by decide +kernel
theorem zd85_95 : zD 85 95 .iastore 1 96 = true := by decide +kernel
theorem zd85_96 : zD 85 96 (.aload_n 0) 1 97 = true := by decide +kernel
theorem zd85_97 : zDg 85 97 100 7 9 (.array .int) = true := by decide +kernel
theorem zd85_100 : zDc 85 100 102 (Int32.ofNat 10) = true := by decide +kernel
theorem zd85_102 : zD 85 102 .iaload 1 103 = true := by decide +kernel
theorem zd85_103 : zDc 85 103 104 (Int32.ofNat 1) = true := by decide +kernel
theorem zd85_104 : zD 85 104 .isub 1 105 = true := by decide +kernel
theorem zd85_105 : zD 85 105 .ireturn 1 106 = true := by decide +kernel
theorem zd86_0 : zDc 86 0 1 (Int32.ofNat 0) = true := by decide +kernel
theorem zd86_1 : zD 86 1 (.istore_n 3) 1 2 = true := by decide +kernel
theorem zd86_2 : zD 86 2 (.iload_n 3) 1 3 = true := by decide +kernel
theorem zd86_3 : zD 86 3 (.aload_n 0) 1 4 = true := by decide +kernel
theorem zd86_4 : zDg 86 4 7 7 9 (.array .int) = true := by decide +kernel
theorem zd86_7 : zD 86 7 (.iload_n 1) 1 8 = true := by decide +kernel
theorem zd86_8 : zD 86 8 .iaload 1 9 = true := by decide +kernel
theorem zd86_9 : zDm 86 9 .ge 35 12 = true := by decide +kernel
theorem zd86_12 : zD 86 12 (.aload_n 0) 1 13 = true := by decide +kernel
theorem zd86_13 : zDg 86 13 16 7 10 (.array .int) = true := by decide +kernel
theorem zd86_16 : zDc 86 16 18 (Int32.ofNat 8) = true := by decide +kernel
theorem zd86_18 : zD 86 18 (.iload_n 1) 1 19 = true := by decide +kernel
theorem zd86_19 : zD 86 19 .imul 1 20 = true := by decide +kernel
theorem zd86_20 : zD 86 20 (.iload_n 3) 1 21 = true := by decide +kernel
theorem zd86_21 : zD 86 21 .iadd 1 22 = true := by decide +kernel
theorem zd86_22 : zD 86 22 .iaload 1 23 = true := by decide +kernel
theorem zd86_23 : zD 86 23 (.iload_n 2) 1 24 = true := by decide +kernel
theorem zd86_24 : zDm 86 24 .ne 29 27 = true := by decide +kernel
theorem zd86_27 : zD 86 27 (.iload_n 3) 1 28 = true := by decide +kernel
theorem zd86_28 : zD 86 28 .ireturn 1 29 = true := by decide +kernel
theorem zd86_29 : zDi 86 29 32 3 (Int32.ofNat 1) = true := by decide +kernel
theorem zd86_32 : zDj 86 32 2 = true := by decide +kernel
theorem zd86_35 : zDc 86 35 36 (-1) = true := by decide +kernel
theorem zd86_36 : zD 86 36 .ireturn 1 37 = true := by decide +kernel
theorem zd87_0 : zD 87 0 (.aload_n 0) 1 1 = true := by decide +kernel
theorem zd87_1 : zD 87 1 (.iload_n 1) 1 2 = true := by decide +kernel
theorem zd87_2 : zDf 87 2 .lt 16 5 = true := by decide +kernel
theorem zd87_5 : zD 87 5 (.iload_n 1) 1 6 = true := by decide +kernel
theorem zd87_6 : zD 87 6 (.aload_n 0) 1 7 = true := by decide +kernel
theorem zd87_7 : zDg 87 7 10 7 9 (.array .int) = true := by decide +kernel
theorem zd87_10 : zDc 87 10 12 (Int32.ofNat 10) = true := by decide +kernel
theorem zd87_12 : zD 87 12 .iaload 1 13 = true := by decide +kernel
theorem zd87_13 : zDm 87 13 .lt 20 16 = true := by decide +kernel
theorem zd87_16 : zDc 87 16 17 (Int32.ofNat 1) = true := by decide +kernel
theorem zd87_17 : zDj 87 17 32 = true := by decide +kernel
theorem zd87_20 : zD 87 20 (.iload_n 2) 1 21 = true := by decide +kernel
theorem zd87_21 : zDk 87 21 24 88 2 = true := by decide +kernel
theorem zd87_24 : zDf 87 24 .eq 31 27 = true := by decide +kernel
theorem zd87_27 : zDc 87 27 28 (Int32.ofNat 0) = true := by decide +kernel
theorem zd87_28 : zDj 87 28 32 = true := by decide +kernel
theorem zd87_31 : zDc 87 31 32 (Int32.ofNat 2) = true := by decide +kernel
theorem zd87_32 : zDp 87 32 35 7 0 (.int) = true := by decide +kernel
theorem zd87_35 : zDc 87 35 37 (Int32.ofNat 80) = true := by decide +kernel
theorem zd87_37 : zD 87 37 (.iload_n 1) 1 38 = true := by decide +kernel
theorem zd87_38 : zD 87 38 .iadd 1 39 = true := by decide +kernel
theorem zd87_39 : zD 87 39 (.istore_n 3) 1 40 = true := by decide +kernel
theorem zd87_40 : zD 87 40 (.aload_n 0) 1 41 = true := by decide +kernel
theorem zd87_41 : zDg 87 41 44 7 0 (.int) = true := by decide +kernel
theorem zd87_44 : zDf 87 44 .ne 58 47 = true := by decide +kernel
theorem zd87_47 : zD 87 47 (.aload_n 0) 1 48 = true := by decide +kernel
theorem zd87_48 : zDg 87 48 51 7 11 (.array .int) = true := by decide +kernel
theorem zd87_51 : zD 87 51 (.iload_n 3) 1 52 = true := by decide +kernel
theorem zd87_52 : zD 87 52 .iaload 1 53 = true := by decide +kernel
theorem zd87_53 : zDc 87 53 55 (Int32.ofNat 64) = true := by decide +kernel
theorem zd87_55 : zDm 87 55 .ne 60 58 = true := by decide +kernel
theorem zd87_58 : zDc 87 58 59 (Int32.ofNat 0) = true := by decide +kernel
theorem zd87_59 : zD 87 59 .ireturn 1 60 = true := by decide +kernel
theorem zd87_60 : zD 87 60 (.aload_n 0) 1 61 = true := by decide +kernel
theorem zd87_61 : zDg 87 61 64 7 12 (.array .int) = true := by decide +kernel
theorem zd87_64 : zDc 87 64 66 (Int32.ofNat 64) = true := by decide +kernel
theorem zd87_66 : zD 87 66 (.iload_n 3) 1 67 = true := by decide +kernel
theorem zd87_67 : zD 87 67 .imul 1 68 = true := by decide +kernel
theorem zd87_68 : zD 87 68 (.aload_n 0) 1 69 = true := by decide +kernel
theorem zd87_69 : zDg 87 69 72 7 11 (.array .int) = true := by decide +kernel
theorem zd87_72 : zD 87 72 (.iload_n 3) 1 73 = true := by decide +kernel
theorem zd87_73 : zD 87 73 .iaload 1 74 = true := by decide +kernel
theorem zd87_74 : zD 87 74 .iadd 1 75 = true := by decide +kernel
theorem zd87_75 : zD 87 75 (.iload_n 2) 1 76 = true := by decide +kernel
theorem zd87_76 : zD 87 76 .iastore 1 77 = true := by decide +kernel
theorem zd87_77 : zD 87 77 (.aload_n 0) 1 78 = true := by decide +kernel
theorem zd87_78 : zDg 87 78 81 7 11 (.array .int) = true := by decide +kernel
theorem zd87_81 : zD 87 81 (.iload_n 3) 1 82 = true := by decide +kernel
theorem zd87_82 : zD 87 82 .dup2 1 83 = true := by decide +kernel
theorem zd87_83 : zD 87 83 .iaload 1 84 = true := by decide +kernel
theorem zd87_84 : zDc 87 84 85 (Int32.ofNat 1) = true := by decide +kernel
theorem zd87_85 : zD 87 85 .iadd 1 86 = true := by decide +kernel
theorem zd87_86 : zD 87 86 .iastore 1 87 = true := by decide +kernel
theorem zd87_87 : zDc 87 87 88 (Int32.ofNat 1) = true := by decide +kernel
theorem zd87_88 : zD 87 88 .ireturn 1 89 = true := by decide +kernel
theorem zd88_0 : zD 88 0 (.iload_n 0) 1 1 = true := by decide +kernel
theorem zd88_1 : zDf 88 1 .lt 15 4 = true := by decide +kernel
theorem zd88_4 : zD 88 4 (.iload_n 0) 1 5 = true := by decide +kernel
theorem zd88_5 : zDc 88 5 8 (Int32.ofNat 256) = true := by decide +kernel
theorem zd88_8 : zDm 88 8 .ge 15 11 = true := by decide +kernel
theorem zd88_11 : zDc 88 11 12 (Int32.ofNat 1) = true := by decide +kernel
theorem zd88_12 : zDj 88 12 16 = true := by decide +kernel
theorem zd88_15 : zDc 88 15 16 (Int32.ofNat 0) = true := by decide +kernel
theorem zd88_16 : zD 88 16 .ireturn 1 17 = true := by decide +kernel
theorem zd89_0 : zD 89 0 (.aload_n 0) 1 1 = true := by decide +kernel
theorem zd89_1 : zDc 89 1 2 (Int32.ofNat 0) = true := by decide +kernel
theorem zd89_2 : zDp 89 2 5 7 0 (.int) = true := by decide +kernel
theorem zd89_5 : zD 89 5 (.aload_n 0) 1 6 = true := by decide +kernel
theorem zd89_6 : zDg 89 6 9 7 8 (.int) = true := by decide +kernel
theorem zd89_9 : zDc 89 9 11 (Int32.ofNat 10) = true := by decide +kernel
theorem zd89_11 : zDm 89 11 .ne 16 14 = true := by decide +kernel
theorem zd89_14 : zDc 89 14 15 (-1) = true := by decide +kernel
theorem zd89_15 : zD 89 15 .ireturn 1 16 = true := by decide +kernel
theorem zd89_16 : zD 89 16 (.aload_n 0) 1 17 = true := by decide +kernel
theorem zd89_17 : zDg 89 17 20 7 8 (.int) = true := by decide +kernel
theorem zd89_20 : zD 89 20 (.istore_n 1) 1 21 = true := by decide +kernel
theorem zd89_21 : zDc 89 21 22 (-1) = true := by decide +kernel
theorem zd89_22 : zD 89 22 (.istore_n 2) 1 23 = true := by decide +kernel
theorem zd89_23 : zDc 89 23 24 (Int32.ofNat 0) = true := by decide +kernel
theorem zd89_24 : zD 89 24 (.istore_n 3) 1 25 = true := by decide +kernel
theorem zd89_25 : zD 89 25 (.iload_n 3) 1 26 = true := by decide +kernel
theorem zd89_26 : zD 89 26 (.aload_n 0) 1 27 = true := by decide +kernel
theorem zd89_27 : zDg 89 27 30 7 9 (.array .int) = true := by decide +kernel
theorem zd89_30 : zDc 89 30 32 (Int32.ofNat 10) = true := by decide +kernel
theorem zd89_32 : zD 89 32 .iaload 1 33 = true := by decide +kernel
theorem zd89_33 : zDm 89 33 .ge 174 36 = true := by decide +kernel
theorem zd89_36 : zDc 89 36 38 (Int32.ofNat 80) = true := by decide +kernel
theorem zd89_38 : zD 89 38 (.aload_n 0) 1 39 = true := by decide +kernel
theorem zd89_39 : zD 89 39 (.iload_n 2) 1 40 = true := by decide +kernel
theorem zd89_40 : zDk 89 40 43 90 0 = true := by decide +kernel
theorem zd89_43 : zD 89 43 .iadd 1 44 = true := by decide +kernel
theorem zd89_44 : zD 89 44 (.istore 4) 2 46 = true := by decide +kernel
theorem zd89_46 : zDc 89 46 48 (Int32.ofNat 8) = true := by decide +kernel
theorem zd89_48 : zD 89 48 (.iload_n 1) 1 49 = true := by decide +kernel
theorem zd89_49 : zD 89 49 .imul 1 50 = true := by decide +kernel
theorem zd89_50 : zD 89 50 (.iload_n 3) 1 51 = true := by decide +kernel
theorem zd89_51 : zD 89 51 .iadd 1 52 = true := by decide +kernel
theorem zd89_52 : zD 89 52 (.istore 5) 2 54 = true := by decide +kernel
theorem zd89_54 : zD 89 54 (.aload_n 0) 1 55 = true := by decide +kernel
theorem zd89_55 : zDg 89 55 58 7 10 (.array .int) = true := by decide +kernel
theorem zd89_58 : zD 89 58 (.iload 4) 2 60 = true := by decide +kernel
theorem zd89_60 : zD 89 60 .iaload 1 61 = true := by decide +kernel
theorem zd89_61 : zD 89 61 (.istore_n 2) 1 62 = true := by decide +kernel
theorem zd89_62 : zD 89 62 (.aload_n 0) 1 63 = true := by decide +kernel
theorem zd89_63 : zDg 89 63 66 7 10 (.array .int) = true := by decide +kernel
theorem zd89_66 : zD 89 66 (.iload 5) 2 68 = true := by decide +kernel
theorem zd89_68 : zD 89 68 (.iload_n 2) 1 69 = true := by decide +kernel
theorem zd89_69 : zD 89 69 .iastore 1 70 = true := by decide +kernel
theorem zd89_70 : zD 89 70 (.aload_n 0) 1 71 = true := by decide +kernel
theorem zd89_71 : zDg 89 71 74 7 11 (.array .int) = true := by decide +kernel
theorem zd89_74 : zD 89 74 (.iload 5) 2 76 = true := by decide +kernel
theorem zd89_76 : zD 89 76 (.aload_n 0) 1 77 = true := by decide +kernel
theorem zd89_77 : zDg 89 77 80 7 11 (.array .int) = true := by decide +kernel
theorem zd89_80 : zD 89 80 (.iload 4) 2 82 = true := by decide +kernel
theorem zd89_82 : zD 89 82 .iaload 1 83 = true := by decide +kernel
theorem zd89_83 : zD 89 83 .iastore 1 84 = true := by decide +kernel
theorem zd89_84 : zDc 89 84 85 (Int32.ofNat 0) = true := by decide +kernel
theorem zd89_85 : zD 89 85 (.istore 6) 2 87 = true := by decide +kernel
theorem zd89_87 : zD 89 87 (.iload 6) 2 89 = true := by decide +kernel
theorem zd89_89 : zDc 89 89 91 (Int32.ofNat 64) = true := by decide +kernel
theorem zd89_91 : zDm 89 91 .ge 126 94 = true := by decide +kernel
theorem zd89_94 : zD 89 94 (.aload_n 0) 1 95 = true := by decide +kernel
theorem zd89_95 : zDg 89 95 98 7 12 (.array .int) = true := by decide +kernel
theorem zd89_98 : zDc 89 98 100 (Int32.ofNat 64) = true := by decide +kernel
theorem zd89_100 : zD 89 100 (.iload 5) 2 102 = true := by decide +kernel
theorem zd89_102 : zD 89 102 .imul 1 103 = true := by decide +kernel
theorem zd89_103 : zD 89 103 (.iload 6) 2 105 = true := by decide +kernel
theorem zd89_105 : zD 89 105 .iadd 1 106 = true := by decide +kernel
theorem zd89_106 : zD 89 106 (.aload_n 0) 1 107 = true := by decide +kernel
theorem zd89_107 : zDg 89 107 110 7 12 (.array .int) = true := by decide +kernel
theorem zd89_110 : zDc 89 110 112 (Int32.ofNat 64) = true := by decide +kernel
theorem zd89_112 : zD 89 112 (.iload 4) 2 114 = true := by decide +kernel
theorem zd89_114 : zD 89 114 .imul 1 115 = true := by decide +kernel
theorem zd89_115 : zD 89 115 (.iload 6) 2 117 = true := by decide +kernel
theorem zd89_117 : zD 89 117 .iadd 1 118 = true := by decide +kernel
theorem zd89_118 : zD 89 118 .iaload 1 119 = true := by decide +kernel
theorem zd89_119 : zD 89 119 .iastore 1 120 = true := by decide +kernel
theorem zd89_120 : zDi 89 120 123 6 (Int32.ofNat 1) = true := by decide +kernel
theorem zd89_123 : zDj 89 123 87 = true := by decide +kernel
theorem zd89_126 : zD 89 126 (.aload_n 0) 1 127 = true := by decide +kernel
theorem zd89_127 : zD 89 127 (.iload 5) 2 129 = true := by decide +kernel
theorem zd89_129 : zDk 89 129 132 91 0 = true := by decide +kernel
theorem zd89_132 : zDc 89 132 133 (Int32.ofNat 0) = true := by decide +kernel
theorem zd89_133 : zD 89 133 (.istore 6) 2 135 = true := by decide +kernel
theorem zd89_135 : zD 89 135 (.iload 6) 2 137 = true := by decide +kernel
theorem zd89_137 : zDc 89 137 139 (Int32.ofNat 32) = true := by decide +kernel
theorem zd89_139 : zDm 89 139 .ge 168 142 = true := by decide +kernel
theorem zd89_142 : zD 89 142 (.aload_n 0) 1 143 = true := by decide +kernel
theorem zd89_143 : zDg 89 143 146 7 13 (.array .int) = true := by decide +kernel
theorem zd89_146 : zDc 89 146 148 (Int32.ofNat 32) = true := by decide +kernel
theorem zd89_148 : zD 89 148 (.iload 5) 2 150 = true := by decide +kernel
theorem zd89_150 : zD 89 150 .imul 1 151 = true := by decide +kernel
theorem zd89_151 : zD 89 151 (.iload 6) 2 153 = true := by decide +kernel
theorem zd89_153 : zD 89 153 .iadd 1 154 = true := by decide +kernel
theorem zd89_154 : zD 89 154 (.aload_n 0) 1 155 = true := by decide +kernel
theorem zd89_155 : zDg 89 155 158 7 7 (.array .int) = true := by decide +kernel
theorem zd89_158 : zD 89 158 (.iload 6) 2 160 = true := by decide +kernel
theorem zd89_160 : zD 89 160 .iaload 1 161 = true := by decide +kernel
theorem zd89_161 : zD 89 161 .iastore 1 162 = true := by decide +kernel
theorem zd89_162 : zDi 89 162 165 6 (Int32.ofNat 1) = true := by decide +kernel
theorem zd89_165 : zDj 89 165 135 = true := by decide +kernel
theorem zd89_168 : zDi 89 168 171 3 (Int32.ofNat 1) = true := by decide +kernel
theorem zd89_171 : zDj 89 171 25 = true := by decide +kernel
theorem zd89_174 : zD 89 174 (.aload_n 0) 1 175 = true := by decide +kernel
theorem zd89_175 : zDg 89 175 178 7 9 (.array .int) = true := by decide +kernel
theorem zd89_178 : zD 89 178 (.iload_n 1) 1 179 = true := by decide +kernel
theorem zd89_179 : zD 89 179 (.aload_n 0) 1 180 = true := by decide +kernel
theorem zd89_180 : zDg 89 180 183 7 9 (.array .int) = true := by decide +kernel
theorem zd89_183 : zDc 89 183 185 (Int32.ofNat 10) = true := by decide +kernel
theorem zd89_185 : zD 89 185 .iaload 1 186 = true := by decide +kernel
theorem zd89_186 : zD 89 186 .iastore 1 187 = true := by decide +kernel
theorem zd89_187 : zD 89 187 (.aload_n 0) 1 188 = true := by decide +kernel
theorem zd89_188 : zDg 89 188 191 7 9 (.array .int) = true := by decide +kernel
theorem zd89_191 : zDc 89 191 193 (Int32.ofNat 10) = true := by decide +kernel
theorem zd89_193 : zDc 89 193 194 (Int32.ofNat 0) = true := by decide +kernel
theorem zd89_194 : zD 89 194 .iastore 1 195 = true := by decide +kernel
theorem zd89_195 : zD 89 195 (.aload_n 0) 1 196 = true := by decide +kernel
theorem zd89_196 : zD 89 196 .dup 1 197 = true := by decide +kernel
theorem zd89_197 : zDg 89 197 200 7 8 (.int) = true := by decide +kernel
theorem zd89_200 : zDc 89 200 201 (Int32.ofNat 1) = true := by decide +kernel
theorem zd89_201 : zD 89 201 .iadd 1 202 = true := by decide +kernel
theorem zd89_202 : zDp 89 202 205 7 8 (.int) = true := by decide +kernel
theorem zd89_205 : zD 89 205 (.aload_n 0) 1 206 = true := by decide +kernel
theorem zd89_206 : zD 89 206 (.iload_n 1) 1 207 = true := by decide +kernel
theorem zd89_207 : zDk 89 207 210 96 0 = true := by decide +kernel
theorem zd89_210 : zD 89 210 (.aload_n 0) 1 211 = true := by decide +kernel
theorem zd89_211 : zDg 89 211 214 7 15 (.int) = true := by decide +kernel
theorem zd89_214 : zDc 89 214 215 (Int32.ofNat 1) = true := by decide +kernel
theorem zd89_215 : zDm 89 215 .le 225 218 = true := by decide +kernel
theorem zd89_218 : zD 89 218 (.aload_n 0) 1 219 = true := by decide +kernel
theorem zd89_219 : zDk 89 219 222 97 0 = true := by decide +kernel
theorem zd89_222 : zDj 89 222 210 = true := by decide +kernel
theorem zd89_225 : zD 89 225 (.aload_n 0) 1 226 = true := by decide +kernel
theorem zd89_226 : zDg 89 226 229 7 15 (.int) = true := by decide +kernel
theorem zd89_229 : zDf 89 229 .ne 236 232 = true := by decide +kernel
theorem zd89_232 : zD 89 232 (.aload_n 0) 1 233 = true := by decide +kernel
theorem zd89_233 : zDk 89 233 236 93 0 = true := by decide +kernel
theorem zd89_236 : zDc 89 236 237 (Int32.ofNat 0) = true := by decide +kernel
theorem zd89_237 : zD 89 237 (.istore_n 3) 1 238 = true := by decide +kernel
theorem zd89_238 : zD 89 238 (.iload_n 3) 1 239 = true := by decide +kernel
theorem zd89_239 : zDc 89 239 241 (Int32.ofNat 32) = true := by decide +kernel
theorem zd89_241 : zDm 89 241 .ge 283 244 = true := by decide +kernel
theorem zd89_244 : zD 89 244 (.aload_n 0) 1 245 = true := by decide +kernel
theorem zd89_245 : zDg 89 245 248 7 14 (.array .int) = true := by decide +kernel
theorem zd89_248 : zDc 89 248 250 (Int32.ofNat 32) = true := by decide +kernel
theorem zd89_250 : zD 89 250 (.iload_n 1) 1 251 = true := by decide +kernel
theorem zd89_251 : zD 89 251 .imul 1 252 = true := by decide +kernel
theorem zd89_252 : zD 89 252 (.iload_n 3) 1 253 = true := by decide +kernel
theorem zd89_253 : zD 89 253 .iadd 1 254 = true := by decide +kernel
theorem zd89_254 : zD 89 254 (.aload_n 0) 1 255 = true := by decide +kernel
theorem zd89_255 : zDg 89 255 258 7 15 (.int) = true := by decide +kernel
theorem zd89_258 : zDf 89 258 .ne 270 261 = true := by decide +kernel
theorem zd89_261 : zD 89 261 (.aload_n 0) 1 262 = true := by decide +kernel
theorem zd89_262 : zDg 89 262 265 7 7 (.array .int) = true := by decide +kernel
theorem zd89_265 : zD 89 265 (.iload_n 3) 1 266 = true := by decide +kernel
theorem zd89_266 : zD 89 266 .iaload 1 267 = true := by decide +kernel
theorem zd89_267 : zDj 89 267 276 = true := by decide +kernel
theorem zd89_270 : zD 89 270 (.aload_n 0) 1 271 = true := by decide +kernel
theorem zd89_271 : zDg 89 271 274 7 16 (.array .int) = true := by decide +kernel
theorem zd89_274 : zD 89 274 (.iload_n 3) 1 275 = true := by decide +kernel
theorem zd89_275 : zD 89 275 .iaload 1 276 = true := by decide +kernel
theorem zd89_276 : zD 89 276 .iastore 1 277 = true := by decide +kernel
theorem zd89_277 : zDi 89 277 280 3 (Int32.ofNat 1) = true := by decide +kernel
theorem zd89_280 : zDj 89 280 238 = true := by decide +kernel
theorem zd89_283 : zD 89 283 (.iload_n 1) 1 284 = true := by decide +kernel
theorem zd89_284 : zD 89 284 .ireturn 1 285 = true := by decide +kernel
theorem zd90_0 : zDc 90 0 1 (-1) = true := by decide +kernel
theorem zd90_1 : zD 90 1 (.istore_n 2) 1 2 = true := by decide +kernel
theorem zd90_2 : zDc 90 2 3 (Int32.ofNat 0) = true := by decide +kernel
theorem zd90_3 : zD 90 3 (.istore_n 3) 1 4 = true := by decide +kernel
theorem zd90_4 : zD 90 4 (.iload_n 3) 1 5 = true := by decide +kernel
theorem zd90_5 : zD 90 5 (.aload_n 0) 1 6 = true := by decide +kernel
theorem zd90_6 : zDg 90 6 9 7 9 (.array .int) = true := by decide +kernel
theorem zd90_9 : zDc 90 9 11 (Int32.ofNat 10) = true := by decide +kernel
theorem zd90_11 : zD 90 11 .iaload 1 12 = true := by decide +kernel
theorem zd90_12 : zDm 90 12 .ge 59 15 = true := by decide +kernel
theorem zd90_15 : zD 90 15 (.aload_n 0) 1 16 = true := by decide +kernel
theorem zd90_16 : zDg 90 16 19 7 10 (.array .int) = true := by decide +kernel
theorem zd90_19 : zDc 90 19 21 (Int32.ofNat 80) = true := by decide +kernel
theorem zd90_21 : zD 90 21 (.iload_n 3) 1 22 = true := by decide +kernel
theorem zd90_22 : zD 90 22 .iadd 1 23 = true := by decide +kernel
theorem zd90_23 : zD 90 23 .iaload 1 24 = true := by decide +kernel
theorem zd90_24 : zD 90 24 (.istore 4) 2 26 = true := by decide +kernel
theorem zd90_26 : zD 90 26 (.iload 4) 2 28 = true := by decide +kernel
theorem zd90_28 : zD 90 28 (.iload_n 1) 1 29 = true := by decide +kernel
theorem zd90_29 : zDm 90 29 .le 53 32 = true := by decide +kernel
theorem zd90_32 : zD 90 32 (.iload_n 2) 1 33 = true := by decide +kernel
theorem zd90_33 : zDc 90 33 34 (-1) = true := by decide +kernel
theorem zd90_34 : zDm 90 34 .eq 51 37 = true := by decide +kernel
theorem zd90_37 : zD 90 37 (.iload 4) 2 39 = true := by decide +kernel
theorem zd90_39 : zD 90 39 (.aload_n 0) 1 40 = true := by decide +kernel
theorem zd90_40 : zDg 90 40 43 7 10 (.array .int) = true := by decide +kernel
theorem zd90_43 : zDc 90 43 45 (Int32.ofNat 80) = true := by decide +kernel
theorem zd90_45 : zD 90 45 (.iload_n 2) 1 46 = true := by decide +kernel
theorem zd90_46 : zD 90 46 .iadd 1 47 = true := by decide +kernel
theorem zd90_47 : zD 90 47 .iaload 1 48 = true := by decide +kernel
theorem zd90_48 : zDm 90 48 .ge 53 51 = true := by decide +kernel
theorem zd90_51 : zD 90 51 (.iload_n 3) 1 52 = true := by decide +kernel
theorem zd90_52 : zD 90 52 (.istore_n 2) 1 53 = true := by decide +kernel
theorem zd90_53 : zDi 90 53 56 3 (Int32.ofNat 1) = true := by decide +kernel
theorem zd90_56 : zDj 90 56 4 = true := by decide +kernel
theorem zd90_59 : zD 90 59 (.iload_n 2) 1 60 = true := by decide +kernel
theorem zd90_60 : zD 90 60 .ireturn 1 61 = true := by decide +kernel
theorem zd91_0 : zD 91 0 (.aload_n 0) 1 1 = true := by decide +kernel
theorem zd91_1 : zDc 91 1 2 (Int32.ofNat 0) = true := by decide +kernel
theorem zd91_2 : zDk 91 2 5 92 0 = true := by decide +kernel
theorem zd91_5 : zD 91 5 (.aload_n 0) 1 6 = true := by decide +kernel
theorem zd91_6 : zD 91 6 (.aload_n 0) 1 7 = true := by decide +kernel
theorem zd91_7 : zDg 91 7 10 7 10 (.array .int) = true := by decide +kernel
theorem zd91_10 : zD 91 10 (.iload_n 1) 1 11 = true := by decide +kernel
theorem zd91_11 : zD 91 11 .iaload 1 12 = true := by decide +kernel
theorem zd91_12 : zDc 91 12 14 (Int32.ofNat 8) = true := by decide +kernel
theorem zd91_14 : zD 91 14 .ishr 1 15 = true := by decide +kernel
theorem zd91_15 : zDk 91 15 18 92 0 = true := by decide +kernel
theorem zd91_18 : zD 91 18 (.aload_n 0) 1 19 = true := by decide +kernel
theorem zd91_19 : zD 91 19 (.aload_n 0) 1 20 = true := by decide +kernel
theorem zd91_20 : zDg 91 20 23 7 10 (.array .int) = true := by decide +kernel
theorem zd91_23 : zD 91 23 (.iload_n 1) 1 24 = true := by decide +kernel
theorem zd91_24 : zD 91 24 .iaload 1 25 = true := by decide +kernel
theorem zd91_25 : zDc 91 25 28 (Int32.ofNat 255) = true := by decide +kernel
theorem zd91_28 : zD 91 28 .iand 1 29 = true := by decide +kernel
theorem zd91_29 : zDk 91 29 32 92 0 = true := by decide +kernel
theorem zd91_32 : zDc 91 32 33 (Int32.ofNat 0) = true := by decide +kernel
theorem zd91_33 : zD 91 33 (.istore_n 2) 1 34 = true := by decide +kernel
theorem zd91_34 : zD 91 34 (.iload_n 2) 1 35 = true := by decide +kernel
theorem zd91_35 : zD 91 35 (.aload_n 0) 1 36 = true := by decide +kernel
theorem zd91_36 : zDg 91 36 39 7 11 (.array .int) = true := by decide +kernel
theorem zd91_39 : zD 91 39 (.iload_n 1) 1 40 = true := by decide +kernel
theorem zd91_40 : zD 91 40 .iaload 1 41 = true := by decide +kernel
theorem zd91_41 : zDm 91 41 .ge 65 44 = true := by decide +kernel
theorem zd91_44 : zD 91 44 (.aload_n 0) 1 45 = true := by decide +kernel
theorem zd91_45 : zD 91 45 (.aload_n 0) 1 46 = true := by decide +kernel
theorem zd91_46 : zDg 91 46 49 7 12 (.array .int) = true := by decide +kernel
theorem zd91_49 : zDc 91 49 51 (Int32.ofNat 64) = true := by decide +kernel
theorem zd91_51 : zD 91 51 (.iload_n 1) 1 52 = true := by decide +kernel
theorem zd91_52 : zD 91 52 .imul 1 53 = true := by decide +kernel
theorem zd91_53 : zD 91 53 (.iload_n 2) 1 54 = true := by decide +kernel
theorem zd91_54 : zD 91 54 .iadd 1 55 = true := by decide +kernel
theorem zd91_55 : zD 91 55 .iaload 1 56 = true := by decide +kernel
theorem zd91_56 : zDk 91 56 59 92 0 = true := by decide +kernel
theorem zd91_59 : zDi 91 59 62 2 (Int32.ofNat 1) = true := by decide +kernel
theorem zd91_62 : zDj 91 62 34 = true := by decide +kernel
theorem zd91_65 : zD 91 65 (.aload_n 0) 1 66 = true := by decide +kernel
theorem zd91_66 : zDk 91 66 69 93 0 = true := by decide +kernel
theorem zd91_69 : zD 91 69 .return_ 1 70 = true := by decide +kernel
theorem zd92_0 : zD 92 0 (.aload_n 0) 1 1 = true := by decide +kernel
theorem zd92_1 : zDg 92 1 4 7 3 (.array .int) = true := by decide +kernel
theorem zd92_4 : zD 92 4 (.aload_n 0) 1 5 = true := by decide +kernel
theorem zd92_5 : zDg 92 5 8 7 2 (.int) = true := by decide +kernel
theorem zd92_8 : zD 92 8 (.iload_n 1) 1 9 = true := by decide +kernel
theorem zd92_9 : zD 92 9 .iastore 1 10 = true := by decide +kernel
theorem zd92_10 : zD 92 10 (.aload_n 0) 1 11 = true := by decide +kernel
theorem zd92_11 : zD 92 11 .dup 1 12 = true := by decide +kernel
theorem zd92_12 : zDg 92 12 15 7 2 (.int) = true := by decide +kernel
theorem zd92_15 : zDc 92 15 16 (Int32.ofNat 1) = true := by decide +kernel
theorem zd92_16 : zD 92 16 .iadd 1 17 = true := by decide +kernel
theorem zd92_17 : zDp 92 17 20 7 2 (.int) = true := by decide +kernel
theorem zd92_20 : zD 92 20 .return_ 1 21 = true := by decide +kernel
theorem zd93_0 : zD 93 0 (.aload_n 0) 1 1 = true := by decide +kernel
theorem zd93_1 : zDg 93 1 4 7 2 (.int) = true := by decide +kernel
theorem zd93_4 : zD 93 4 (.istore_n 1) 1 5 = true := by decide +kernel
theorem zd93_5 : zD 93 5 (.aload_n 0) 1 6 = true := by decide +kernel
theorem zd93_6 : zDc 93 6 9 (Int32.ofNat 128) = true := by decide +kernel
theorem zd93_9 : zDk 93 9 12 92 0 = true := by decide +kernel
theorem zd93_12 : zD 93 12 (.aload_n 0) 1 13 = true := by decide +kernel
theorem zd93_13 : zDg 93 13 16 7 2 (.int) = true := by decide +kernel
theorem zd93_16 : zDc 93 16 18 (Int32.ofNat 64) = true := by decide +kernel
theorem zd93_18 : zD 93 18 .irem 1 19 = true := by decide +kernel
theorem zd93_19 : zDc 93 19 21 (Int32.ofNat 56) = true := by decide +kernel
theorem zd93_21 : zDm 93 21 .eq 32 24 = true := by decide +kernel
theorem zd93_24 : zD 93 24 (.aload_n 0) 1 25 = true := by decide +kernel
theorem zd93_25 : zDc 93 25 26 (Int32.ofNat 0) = true := by decide +kernel
theorem zd93_26 : zDk 93 26 29 92 0 = true := by decide +kernel
theorem zd93_29 : zDj 93 29 12 = true := by decide +kernel
theorem zd93_32 : zDc 93 32 33 (Int32.ofNat 0) = true := by decide +kernel
theorem zd93_33 : zD 93 33 (.istore_n 2) 1 34 = true := by decide +kernel
theorem zd93_34 : zD 93 34 (.iload_n 2) 1 35 = true := by decide +kernel
theorem zd93_35 : zDc 93 35 36 (Int32.ofNat 4) = true := by decide +kernel
theorem zd93_36 : zDm 93 36 .ge 50 39 = true := by decide +kernel
theorem zd93_39 : zD 93 39 (.aload_n 0) 1 40 = true := by decide +kernel
theorem zd93_40 : zDc 93 40 41 (Int32.ofNat 0) = true := by decide +kernel
theorem zd93_41 : zDk 93 41 44 92 0 = true := by decide +kernel
theorem zd93_44 : zDi 93 44 47 2 (Int32.ofNat 1) = true := by decide +kernel
theorem zd93_47 : zDj 93 47 34 = true := by decide +kernel
theorem zd93_50 : zDc 93 50 52 (Int32.ofNat 24) = true := by decide +kernel
theorem zd93_52 : zD 93 52 (.istore_n 2) 1 53 = true := by decide +kernel
theorem zd93_53 : zD 93 53 (.iload_n 2) 1 54 = true := by decide +kernel
theorem zd93_54 : zDf 93 54 .lt 77 57 = true := by decide +kernel
theorem zd93_57 : zD 93 57 (.aload_n 0) 1 58 = true := by decide +kernel
theorem zd93_58 : zDc 93 58 60 (Int32.ofNat 8) = true := by decide +kernel
theorem zd93_60 : zD 93 60 (.iload_n 1) 1 61 = true := by decide +kernel
theorem zd93_61 : zD 93 61 .imul 1 62 = true := by decide +kernel
theorem zd93_62 : zD 93 62 (.iload_n 2) 1 63 = true := by decide +kernel
theorem zd93_63 : zD 93 63 .ishr 1 64 = true := by decide +kernel
theorem zd93_64 : zDc 93 64 67 (Int32.ofNat 255) = true := by decide +kernel
theorem zd93_67 : zD 93 67 .iand 1 68 = true := by decide +kernel
theorem zd93_68 : zDk 93 68 71 92 0 = true := by decide +kernel
theorem zd93_71 : zDi 93 71 74 2 (-(Int32.ofNat 8)) = true := by decide +kernel
theorem zd93_74 : zDj 93 74 53 = true := by decide +kernel
theorem zd93_77 : zD 93 77 (.aload_n 0) 1 78 = true := by decide +kernel
theorem zd93_78 : zDg 93 78 81 7 5 (.array .int) = true := by decide +kernel
theorem zd93_81 : zDc 93 81 82 (Int32.ofNat 0) = true := by decide +kernel
theorem zd93_82 : zDc 93 82 84 (Int32.ofNat 1779033703) = true := by decide +kernel
theorem zd93_84 : zD 93 84 .iastore 1 85 = true := by decide +kernel
theorem zd93_85 : zD 93 85 (.aload_n 0) 1 86 = true := by decide +kernel
theorem zd93_86 : zDg 93 86 89 7 5 (.array .int) = true := by decide +kernel
theorem zd93_89 : zDc 93 89 90 (Int32.ofNat 1) = true := by decide +kernel
theorem zd93_90 : zDc 93 90 92 (-1150833019) = true := by decide +kernel
theorem zd93_92 : zD 93 92 .iastore 1 93 = true := by decide +kernel
theorem zd93_93 : zD 93 93 (.aload_n 0) 1 94 = true := by decide +kernel
theorem zd93_94 : zDg 93 94 97 7 5 (.array .int) = true := by decide +kernel
theorem zd93_97 : zDc 93 97 98 (Int32.ofNat 2) = true := by decide +kernel
theorem zd93_98 : zDc 93 98 100 (Int32.ofNat 1013904242) = true := by decide +kernel
theorem zd93_100 : zD 93 100 .iastore 1 101 = true := by decide +kernel
theorem zd93_101 : zD 93 101 (.aload_n 0) 1 102 = true := by decide +kernel
theorem zd93_102 : zDg 93 102 105 7 5 (.array .int) = true := by decide +kernel
theorem zd93_105 : zDc 93 105 106 (Int32.ofNat 3) = true := by decide +kernel
theorem zd93_106 : zDc 93 106 108 (-1521486534) = true := by decide +kernel
theorem zd93_108 : zD 93 108 .iastore 1 109 = true := by decide +kernel
theorem zd93_109 : zD 93 109 (.aload_n 0) 1 110 = true := by decide +kernel
theorem zd93_110 : zDg 93 110 113 7 5 (.array .int) = true := by decide +kernel
theorem zd93_113 : zDc 93 113 114 (Int32.ofNat 4) = true := by decide +kernel
theorem zd93_114 : zDc 93 114 116 (Int32.ofNat 1359893119) = true := by decide +kernel
theorem zd93_116 : zD 93 116 .iastore 1 117 = true := by decide +kernel
theorem zd93_117 : zD 93 117 (.aload_n 0) 1 118 = true := by decide +kernel
theorem zd93_118 : zDg 93 118 121 7 5 (.array .int) = true := by decide +kernel
theorem zd93_121 : zDc 93 121 122 (Int32.ofNat 5) = true := by decide +kernel
theorem zd93_122 : zDc 93 122 124 (-1694144372) = true := by decide +kernel
theorem zd93_124 : zD 93 124 .iastore 1 125 = true := by decide +kernel
theorem zd93_125 : zD 93 125 (.aload_n 0) 1 126 = true := by decide +kernel
theorem zd93_126 : zDg 93 126 129 7 5 (.array .int) = true := by decide +kernel
theorem zd93_129 : zDc 93 129 131 (Int32.ofNat 6) = true := by decide +kernel
theorem zd93_131 : zDc 93 131 133 (Int32.ofNat 528734635) = true := by decide +kernel
theorem zd93_133 : zD 93 133 .iastore 1 134 = true := by decide +kernel
theorem zd93_134 : zD 93 134 (.aload_n 0) 1 135 = true := by decide +kernel
theorem zd93_135 : zDg 93 135 138 7 5 (.array .int) = true := by decide +kernel
theorem zd93_138 : zDc 93 138 140 (Int32.ofNat 7) = true := by decide +kernel
theorem zd93_140 : zDc 93 140 142 (Int32.ofNat 1541459225) = true := by decide +kernel
theorem zd93_142 : zD 93 142 .iastore 1 143 = true := by decide +kernel
theorem zd93_143 : zDc 93 143 144 (Int32.ofNat 0) = true := by decide +kernel
theorem zd93_144 : zD 93 144 (.istore_n 2) 1 145 = true := by decide +kernel
theorem zd93_145 : zD 93 145 (.iload_n 2) 1 146 = true := by decide +kernel
theorem zd93_146 : zD 93 146 (.aload_n 0) 1 147 = true := by decide +kernel
theorem zd93_147 : zDg 93 147 150 7 2 (.int) = true := by decide +kernel
theorem zd93_150 : zDm 93 150 .ge 164 153 = true := by decide +kernel
theorem zd93_153 : zD 93 153 (.aload_n 0) 1 154 = true := by decide +kernel
theorem zd93_154 : zD 93 154 (.iload_n 2) 1 155 = true := by decide +kernel
theorem zd93_155 : zDk 93 155 158 94 0 = true := by decide +kernel
theorem zd93_158 : zDi 93 158 161 2 (Int32.ofNat 64) = true := by decide +kernel
theorem zd93_161 : zDj 93 161 145 = true := by decide +kernel
theorem zd93_164 : zDc 93 164 165 (Int32.ofNat 0) = true := by decide +kernel
theorem zd93_165 : zD 93 165 (.istore_n 2) 1 166 = true := by decide +kernel
theorem zd93_166 : zD 93 166 (.iload_n 2) 1 167 = true := by decide +kernel
theorem zd93_167 : zDc 93 167 169 (Int32.ofNat 32) = true := by decide +kernel
theorem zd93_169 : zDm 93 169 .ge 206 172 = true := by decide +kernel
theorem zd93_172 : zD 93 172 (.aload_n 0) 1 173 = true := by decide +kernel
theorem zd93_173 : zDg 93 173 176 7 7 (.array .int) = true := by decide +kernel
theorem zd93_176 : zD 93 176 (.iload_n 2) 1 177 = true := by decide +kernel
theorem zd93_177 : zD 93 177 (.aload_n 0) 1 178 = true := by decide +kernel
theorem zd93_178 : zDg 93 178 181 7 5 (.array .int) = true := by decide +kernel
theorem zd93_181 : zD 93 181 (.iload_n 2) 1 182 = true := by decide +kernel
theorem zd93_182 : zDc 93 182 183 (Int32.ofNat 4) = true := by decide +kernel
theorem zd93_183 : zD 93 183 .idiv 1 184 = true := by decide +kernel
theorem zd93_184 : zD 93 184 .iaload 1 185 = true := by decide +kernel
theorem zd93_185 : zDc 93 185 187 (Int32.ofNat 24) = true := by decide +kernel
theorem zd93_187 : zDc 93 187 189 (Int32.ofNat 8) = true := by decide +kernel
theorem zd93_189 : zD 93 189 (.iload_n 2) 1 190 = true := by decide +kernel
theorem zd93_190 : zDc 93 190 191 (Int32.ofNat 4) = true := by decide +kernel
theorem zd93_191 : zD 93 191 .irem 1 192 = true := by decide +kernel
theorem zd93_192 : zD 93 192 .imul 1 193 = true := by decide +kernel
theorem zd93_193 : zD 93 193 .isub 1 194 = true := by decide +kernel
theorem zd93_194 : zD 93 194 .ishr 1 195 = true := by decide +kernel
theorem zd93_195 : zDc 93 195 198 (Int32.ofNat 255) = true := by decide +kernel
theorem zd93_198 : zD 93 198 .iand 1 199 = true := by decide +kernel
theorem zd93_199 : zD 93 199 .iastore 1 200 = true := by decide +kernel
theorem zd93_200 : zDi 93 200 203 2 (Int32.ofNat 1) = true := by decide +kernel
theorem zd93_203 : zDj 93 203 166 = true := by decide +kernel
theorem zd93_206 : zD 93 206 (.aload_n 0) 1 207 = true := by decide +kernel
theorem zd93_207 : zDc 93 207 208 (Int32.ofNat 0) = true := by decide +kernel
theorem zd93_208 : zDp 93 208 211 7 2 (.int) = true := by decide +kernel
theorem zd93_211 : zD 93 211 .return_ 1 212 = true := by decide +kernel
theorem zd94_0 : zDc 94 0 1 (Int32.ofNat 0) = true := by decide +kernel
theorem zd94_1 : zD 94 1 (.istore_n 2) 1 2 = true := by decide +kernel
theorem zd94_2 : zD 94 2 (.iload_n 2) 1 3 = true := by decide +kernel
theorem zd94_3 : zDc 94 3 5 (Int32.ofNat 16) = true := by decide +kernel
theorem zd94_5 : zDm 94 5 .ge 68 8 = true := by decide +kernel
theorem zd94_8 : zD 94 8 (.iload_n 1) 1 9 = true := by decide +kernel
theorem zd94_9 : zDc 94 9 10 (Int32.ofNat 4) = true := by decide +kernel
theorem zd94_10 : zD 94 10 (.iload_n 2) 1 11 = true := by decide +kernel
theorem zd94_11 : zD 94 11 .imul 1 12 = true := by decide +kernel
theorem zd94_12 : zD 94 12 .iadd 1 13 = true := by decide +kernel
theorem zd94_13 : zD 94 13 (.istore_n 3) 1 14 = true := by decide +kernel
theorem zd94_14 : zD 94 14 (.aload_n 0) 1 15 = true := by decide +kernel
theorem zd94_15 : zDg 94 15 18 7 4 (.array .int) = true := by decide +kernel
theorem zd94_18 : zD 94 18 (.iload_n 2) 1 19 = true := by decide +kernel
theorem zd94_19 : zD 94 19 (.aload_n 0) 1 20 = true := by decide +kernel
theorem zd94_20 : zDg 94 20 23 7 3 (.array .int) = true := by decide +kernel
theorem zd94_23 : zD 94 23 (.iload_n 3) 1 24 = true := by decide +kernel
theorem zd94_24 : zD 94 24 .iaload 1 25 = true := by decide +kernel
theorem zd94_25 : zDc 94 25 27 (Int32.ofNat 24) = true := by decide +kernel
theorem zd94_27 : zD 94 27 .ishl 1 28 = true := by decide +kernel
theorem zd94_28 : zD 94 28 (.aload_n 0) 1 29 = true := by decide +kernel
theorem zd94_29 : zDg 94 29 32 7 3 (.array .int) = true := by decide +kernel
theorem zd94_32 : zD 94 32 (.iload_n 3) 1 33 = true := by decide +kernel
theorem zd94_33 : zDc 94 33 34 (Int32.ofNat 1) = true := by decide +kernel
theorem zd94_34 : zD 94 34 .iadd 1 35 = true := by decide +kernel
theorem zd94_35 : zD 94 35 .iaload 1 36 = true := by decide +kernel
theorem zd94_36 : zDc 94 36 38 (Int32.ofNat 16) = true := by decide +kernel
theorem zd94_38 : zD 94 38 .ishl 1 39 = true := by decide +kernel
theorem zd94_39 : zD 94 39 .ior 1 40 = true := by decide +kernel
theorem zd94_40 : zD 94 40 (.aload_n 0) 1 41 = true := by decide +kernel
theorem zd94_41 : zDg 94 41 44 7 3 (.array .int) = true := by decide +kernel
theorem zd94_44 : zD 94 44 (.iload_n 3) 1 45 = true := by decide +kernel
theorem zd94_45 : zDc 94 45 46 (Int32.ofNat 2) = true := by decide +kernel
theorem zd94_46 : zD 94 46 .iadd 1 47 = true := by decide +kernel
theorem zd94_47 : zD 94 47 .iaload 1 48 = true := by decide +kernel
theorem zd94_48 : zDc 94 48 50 (Int32.ofNat 8) = true := by decide +kernel
theorem zd94_50 : zD 94 50 .ishl 1 51 = true := by decide +kernel
theorem zd94_51 : zD 94 51 .ior 1 52 = true := by decide +kernel
theorem zd94_52 : zD 94 52 (.aload_n 0) 1 53 = true := by decide +kernel
theorem zd94_53 : zDg 94 53 56 7 3 (.array .int) = true := by decide +kernel
theorem zd94_56 : zD 94 56 (.iload_n 3) 1 57 = true := by decide +kernel
theorem zd94_57 : zDc 94 57 58 (Int32.ofNat 3) = true := by decide +kernel
theorem zd94_58 : zD 94 58 .iadd 1 59 = true := by decide +kernel
theorem zd94_59 : zD 94 59 .iaload 1 60 = true := by decide +kernel
theorem zd94_60 : zD 94 60 .ior 1 61 = true := by decide +kernel
theorem zd94_61 : zD 94 61 .iastore 1 62 = true := by decide +kernel
theorem zd94_62 : zDi 94 62 65 2 (Int32.ofNat 1) = true := by decide +kernel
theorem zd94_65 : zDj 94 65 2 = true := by decide +kernel
theorem zd94_68 : zDc 94 68 70 (Int32.ofNat 16) = true := by decide +kernel
theorem zd94_70 : zD 94 70 (.istore_n 2) 1 71 = true := by decide +kernel
theorem zd94_71 : zD 94 71 (.iload_n 2) 1 72 = true := by decide +kernel
theorem zd94_72 : zDc 94 72 74 (Int32.ofNat 64) = true := by decide +kernel
theorem zd94_74 : zDm 94 74 .ge 176 77 = true := by decide +kernel
theorem zd94_77 : zD 94 77 (.aload_n 0) 1 78 = true := by decide +kernel
theorem zd94_78 : zDg 94 78 81 7 4 (.array .int) = true := by decide +kernel
theorem zd94_81 : zD 94 81 (.iload_n 2) 1 82 = true := by decide +kernel
theorem zd94_82 : zDc 94 82 84 (Int32.ofNat 15) = true := by decide +kernel
theorem zd94_84 : zD 94 84 .isub 1 85 = true := by decide +kernel
theorem zd94_85 : zD 94 85 .iaload 1 86 = true := by decide +kernel
theorem zd94_86 : zD 94 86 (.istore_n 3) 1 87 = true := by decide +kernel
theorem zd94_87 : zD 94 87 (.aload_n 0) 1 88 = true := by decide +kernel
theorem zd94_88 : zDg 94 88 91 7 4 (.array .int) = true := by decide +kernel
theorem zd94_91 : zD 94 91 (.iload_n 2) 1 92 = true := by decide +kernel
theorem zd94_92 : zDc 94 92 93 (Int32.ofNat 2) = true := by decide +kernel
theorem zd94_93 : zD 94 93 .isub 1 94 = true := by decide +kernel
theorem zd94_94 : zD 94 94 .iaload 1 95 = true := by decide +kernel
theorem zd94_95 : zD 94 95 (.istore 4) 2 97 = true := by decide +kernel
theorem zd94_97 : zD 94 97 (.iload_n 3) 1 98 = true := by decide +kernel
theorem zd94_98 : zDc 94 98 100 (Int32.ofNat 7) = true := by decide +kernel
theorem zd94_100 : zDk 94 100 103 95 2 = true := by decide +kernel
theorem zd94_103 : zD 94 103 (.iload_n 3) 1 104 = true := by decide +kernel
theorem zd94_104 : zDc 94 104 106 (Int32.ofNat 18) = true := by decide +kernel
theorem zd94_106 : zDk 94 106 109 95 2 = true := by decide +kernel
theorem zd94_109 : zD 94 109 .ixor 1 110 = true := by decide +kernel
theorem zd94_110 : zD 94 110 (.iload_n 3) 1 111 = true := by decide +kernel
theorem zd94_111 : zDc 94 111 112 (Int32.ofNat 3) = true := by decide +kernel
theorem zd94_112 : zD 94 112 .iushr 1 113 = true := by decide +kernel
theorem zd94_113 : zD 94 113 .ixor 1 114 = true := by decide +kernel
theorem zd94_114 : zD 94 114 (.istore 5) 2 116 = true := by decide +kernel
theorem zd94_116 : zD 94 116 (.iload 4) 2 118 = true := by decide +kernel
theorem zd94_118 : zDc 94 118 120 (Int32.ofNat 17) = true := by decide +kernel
theorem zd94_120 : zDk 94 120 123 95 2 = true := by decide +kernel
theorem zd94_123 : zD 94 123 (.iload 4) 2 125 = true := by decide +kernel
theorem zd94_125 : zDc 94 125 127 (Int32.ofNat 19) = true := by decide +kernel
theorem zd94_127 : zDk 94 127 130 95 2 = true := by decide +kernel
theorem zd94_130 : zD 94 130 .ixor 1 131 = true := by decide +kernel
theorem zd94_131 : zD 94 131 (.iload 4) 2 133 = true := by decide +kernel
theorem zd94_133 : zDc 94 133 135 (Int32.ofNat 10) = true := by decide +kernel
theorem zd94_135 : zD 94 135 .iushr 1 136 = true := by decide +kernel
theorem zd94_136 : zD 94 136 .ixor 1 137 = true := by decide +kernel
theorem zd94_137 : zD 94 137 (.istore 6) 2 139 = true := by decide +kernel
theorem zd94_139 : zD 94 139 (.aload_n 0) 1 140 = true := by decide +kernel
theorem zd94_140 : zDg 94 140 143 7 4 (.array .int) = true := by decide +kernel
theorem zd94_143 : zD 94 143 (.iload_n 2) 1 144 = true := by decide +kernel
theorem zd94_144 : zD 94 144 (.aload_n 0) 1 145 = true := by decide +kernel
theorem zd94_145 : zDg 94 145 148 7 4 (.array .int) = true := by decide +kernel
theorem zd94_148 : zD 94 148 (.iload_n 2) 1 149 = true := by decide +kernel
theorem zd94_149 : zDc 94 149 151 (Int32.ofNat 16) = true := by decide +kernel
theorem zd94_151 : zD 94 151 .isub 1 152 = true := by decide +kernel
theorem zd94_152 : zD 94 152 .iaload 1 153 = true := by decide +kernel
theorem zd94_153 : zD 94 153 (.iload 5) 2 155 = true := by decide +kernel
theorem zd94_155 : zD 94 155 .iadd 1 156 = true := by decide +kernel
theorem zd94_156 : zD 94 156 (.aload_n 0) 1 157 = true := by decide +kernel
theorem zd94_157 : zDg 94 157 160 7 4 (.array .int) = true := by decide +kernel
theorem zd94_160 : zD 94 160 (.iload_n 2) 1 161 = true := by decide +kernel
theorem zd94_161 : zDc 94 161 163 (Int32.ofNat 7) = true := by decide +kernel
theorem zd94_163 : zD 94 163 .isub 1 164 = true := by decide +kernel
theorem zd94_164 : zD 94 164 .iaload 1 165 = true := by decide +kernel
theorem zd94_165 : zD 94 165 .iadd 1 166 = true := by decide +kernel
theorem zd94_166 : zD 94 166 (.iload 6) 2 168 = true := by decide +kernel
theorem zd94_168 : zD 94 168 .iadd 1 169 = true := by decide +kernel
theorem zd94_169 : zD 94 169 .iastore 1 170 = true := by decide +kernel
theorem zd94_170 : zDi 94 170 173 2 (Int32.ofNat 1) = true := by decide +kernel
theorem zd94_173 : zDj 94 173 71 = true := by decide +kernel
theorem zd94_176 : zDc 94 176 177 (Int32.ofNat 0) = true := by decide +kernel
theorem zd94_177 : zD 94 177 (.istore_n 2) 1 178 = true := by decide +kernel
theorem zd94_178 : zD 94 178 (.iload_n 2) 1 179 = true := by decide +kernel
theorem zd94_179 : zDc 94 179 181 (Int32.ofNat 8) = true := by decide +kernel
theorem zd94_181 : zDm 94 181 .ge 202 184 = true := by decide +kernel
theorem zd94_184 : zD 94 184 (.aload_n 0) 1 185 = true := by decide +kernel
theorem zd94_185 : zDg 94 185 188 7 6 (.array .int) = true := by decide +kernel
theorem zd94_188 : zD 94 188 (.iload_n 2) 1 189 = true := by decide +kernel
theorem zd94_189 : zD 94 189 (.aload_n 0) 1 190 = true := by decide +kernel
theorem zd94_190 : zDg 94 190 193 7 5 (.array .int) = true := by decide +kernel
theorem zd94_193 : zD 94 193 (.iload_n 2) 1 194 = true := by decide +kernel
theorem zd94_194 : zD 94 194 .iaload 1 195 = true := by decide +kernel
theorem zd94_195 : zD 94 195 .iastore 1 196 = true := by decide +kernel
theorem zd94_196 : zDi 94 196 199 2 (Int32.ofNat 1) = true := by decide +kernel
theorem zd94_199 : zDj 94 199 178 = true := by decide +kernel
theorem zd94_202 : zDc 94 202 203 (Int32.ofNat 0) = true := by decide +kernel
theorem zd94_203 : zD 94 203 (.istore_n 2) 1 204 = true := by decide +kernel
theorem zd94_204 : zD 94 204 (.iload_n 2) 1 205 = true := by decide +kernel
theorem zd94_205 : zDc 94 205 207 (Int32.ofNat 64) = true := by decide +kernel
theorem zd94_207 : zDm 94 207 .ge 419 210 = true := by decide +kernel
theorem zd94_210 : zD 94 210 (.aload_n 0) 1 211 = true := by decide +kernel
theorem zd94_211 : zDg 94 211 214 7 6 (.array .int) = true := by decide +kernel
theorem zd94_214 : zDc 94 214 215 (Int32.ofNat 4) = true := by decide +kernel
theorem zd94_215 : zD 94 215 .iaload 1 216 = true := by decide +kernel
theorem zd94_216 : zD 94 216 (.istore_n 3) 1 217 = true := by decide +kernel
theorem zd94_217 : zD 94 217 (.aload_n 0) 1 218 = true := by decide +kernel
theorem zd94_218 : zDg 94 218 221 7 6 (.array .int) = true := by decide +kernel
theorem zd94_221 : zDc 94 221 222 (Int32.ofNat 0) = true := by decide +kernel
theorem zd94_222 : zD 94 222 .iaload 1 223 = true := by decide +kernel
theorem zd94_223 : zD 94 223 (.istore 4) 2 225 = true := by decide +kernel
theorem zd94_225 : zD 94 225 (.iload_n 3) 1 226 = true := by decide +kernel
theorem zd94_226 : zDc 94 226 228 (Int32.ofNat 6) = true := by decide +kernel
theorem zd94_228 : zDk 94 228 231 95 2 = true := by decide +kernel
theorem zd94_231 : zD 94 231 (.iload_n 3) 1 232 = true := by decide +kernel
theorem zd94_232 : zDc 94 232 234 (Int32.ofNat 11) = true := by decide +kernel
theorem zd94_234 : zDk 94 234 237 95 2 = true := by decide +kernel
theorem zd94_237 : zD 94 237 .ixor 1 238 = true := by decide +kernel
theorem zd94_238 : zD 94 238 (.iload_n 3) 1 239 = true := by decide +kernel
theorem zd94_239 : zDc 94 239 241 (Int32.ofNat 25) = true := by decide +kernel
theorem zd94_241 : zDk 94 241 244 95 2 = true := by decide +kernel
theorem zd94_244 : zD 94 244 .ixor 1 245 = true := by decide +kernel
theorem zd94_245 : zD 94 245 (.istore 5) 2 247 = true := by decide +kernel
theorem zd94_247 : zD 94 247 (.iload_n 3) 1 248 = true := by decide +kernel
theorem zd94_248 : zD 94 248 (.aload_n 0) 1 249 = true := by decide +kernel
theorem zd94_249 : zDg 94 249 252 7 6 (.array .int) = true := by decide +kernel
theorem zd94_252 : zDc 94 252 253 (Int32.ofNat 5) = true := by decide +kernel
theorem zd94_253 : zD 94 253 .iaload 1 254 = true := by decide +kernel
theorem zd94_254 : zD 94 254 .iand 1 255 = true := by decide +kernel
theorem zd94_255 : zD 94 255 (.iload_n 3) 1 256 = true := by decide +kernel
theorem zd94_256 : zDc 94 256 257 (-1) = true := by decide +kernel
theorem zd94_257 : zD 94 257 .ixor 1 258 = true := by decide +kernel
theorem zd94_258 : zD 94 258 (.aload_n 0) 1 259 = true := by decide +kernel
theorem zd94_259 : zDg 94 259 262 7 6 (.array .int) = true := by decide +kernel
theorem zd94_262 : zDc 94 262 264 (Int32.ofNat 6) = true := by decide +kernel
theorem zd94_264 : zD 94 264 .iaload 1 265 = true := by decide +kernel
theorem zd94_265 : zD 94 265 .iand 1 266 = true := by decide +kernel
theorem zd94_266 : zD 94 266 .ixor 1 267 = true := by decide +kernel
theorem zd94_267 : zD 94 267 (.istore 6) 2 269 = true := by decide +kernel
theorem zd94_269 : zD 94 269 (.aload_n 0) 1 270 = true := by decide +kernel
theorem zd94_270 : zDg 94 270 273 7 6 (.array .int) = true := by decide +kernel
theorem zd94_273 : zDc 94 273 275 (Int32.ofNat 7) = true := by decide +kernel
theorem zd94_275 : zD 94 275 .iaload 1 276 = true := by decide +kernel
theorem zd94_276 : zD 94 276 (.iload 5) 2 278 = true := by decide +kernel
theorem zd94_278 : zD 94 278 .iadd 1 279 = true := by decide +kernel
theorem zd94_279 : zD 94 279 (.iload 6) 2 281 = true := by decide +kernel
theorem zd94_281 : zD 94 281 .iadd 1 282 = true := by decide +kernel
theorem zd94_282 : zD 94 282 (.aload_n 0) 1 283 = true := by decide +kernel
theorem zd94_283 : zDg 94 283 286 7 1 (.array .int) = true := by decide +kernel
theorem zd94_286 : zD 94 286 (.iload_n 2) 1 287 = true := by decide +kernel
theorem zd94_287 : zD 94 287 .iaload 1 288 = true := by decide +kernel
theorem zd94_288 : zD 94 288 .iadd 1 289 = true := by decide +kernel
theorem zd94_289 : zD 94 289 (.aload_n 0) 1 290 = true := by decide +kernel
theorem zd94_290 : zDg 94 290 293 7 4 (.array .int) = true := by decide +kernel
theorem zd94_293 : zD 94 293 (.iload_n 2) 1 294 = true := by decide +kernel
theorem zd94_294 : zD 94 294 .iaload 1 295 = true := by decide +kernel
theorem zd94_295 : zD 94 295 .iadd 1 296 = true := by decide +kernel
theorem zd94_296 : zD 94 296 (.istore 7) 2 298 = true := by decide +kernel
theorem zd94_298 : zD 94 298 (.iload 4) 2 300 = true := by decide +kernel
theorem zd94_300 : zDc 94 300 301 (Int32.ofNat 2) = true := by decide +kernel
theorem zd94_301 : zDk 94 301 304 95 2 = true := by decide +kernel
theorem zd94_304 : zD 94 304 (.iload 4) 2 306 = true := by decide +kernel
theorem zd94_306 : zDc 94 306 308 (Int32.ofNat 13) = true := by decide +kernel
theorem zd94_308 : zDk 94 308 311 95 2 = true := by decide +kernel
theorem zd94_311 : zD 94 311 .ixor 1 312 = true := by decide +kernel
theorem zd94_312 : zD 94 312 (.iload 4) 2 314 = true := by decide +kernel
theorem zd94_314 : zDc 94 314 316 (Int32.ofNat 22) = true := by decide +kernel
theorem zd94_316 : zDk 94 316 319 95 2 = true := by decide +kernel
theorem zd94_319 : zD 94 319 .ixor 1 320 = true := by decide +kernel
theorem zd94_320 : zD 94 320 (.istore 8) 2 322 = true := by decide +kernel
theorem zd94_322 : zD 94 322 (.iload 4) 2 324 = true := by decide +kernel
theorem zd94_324 : zD 94 324 (.aload_n 0) 1 325 = true := by decide +kernel
theorem zd94_325 : zDg 94 325 328 7 6 (.array .int) = true := by decide +kernel
theorem zd94_328 : zDc 94 328 329 (Int32.ofNat 1) = true := by decide +kernel
theorem zd94_329 : zD 94 329 .iaload 1 330 = true := by decide +kernel
theorem zd94_330 : zD 94 330 .iand 1 331 = true := by decide +kernel
theorem zd94_331 : zD 94 331 (.iload 4) 2 333 = true := by decide +kernel
theorem zd94_333 : zD 94 333 (.aload_n 0) 1 334 = true := by decide +kernel
theorem zd94_334 : zDg 94 334 337 7 6 (.array .int) = true := by decide +kernel
theorem zd94_337 : zDc 94 337 338 (Int32.ofNat 2) = true := by decide +kernel
theorem zd94_338 : zD 94 338 .iaload 1 339 = true := by decide +kernel
theorem zd94_339 : zD 94 339 .iand 1 340 = true := by decide +kernel
theorem zd94_340 : zD 94 340 .ixor 1 341 = true := by decide +kernel
theorem zd94_341 : zD 94 341 (.aload_n 0) 1 342 = true := by decide +kernel
theorem zd94_342 : zDg 94 342 345 7 6 (.array .int) = true := by decide +kernel
theorem zd94_345 : zDc 94 345 346 (Int32.ofNat 1) = true := by decide +kernel
theorem zd94_346 : zD 94 346 .iaload 1 347 = true := by decide +kernel
theorem zd94_347 : zD 94 347 (.aload_n 0) 1 348 = true := by decide +kernel
theorem zd94_348 : zDg 94 348 351 7 6 (.array .int) = true := by decide +kernel
theorem zd94_351 : zDc 94 351 352 (Int32.ofNat 2) = true := by decide +kernel
theorem zd94_352 : zD 94 352 .iaload 1 353 = true := by decide +kernel
theorem zd94_353 : zD 94 353 .iand 1 354 = true := by decide +kernel
theorem zd94_354 : zD 94 354 .ixor 1 355 = true := by decide +kernel
theorem zd94_355 : zD 94 355 (.istore 9) 2 357 = true := by decide +kernel
theorem zd94_357 : zDc 94 357 359 (Int32.ofNat 7) = true := by decide +kernel
theorem zd94_359 : zD 94 359 (.istore 10) 2 361 = true := by decide +kernel
theorem zd94_361 : zD 94 361 (.iload 10) 2 363 = true := by decide +kernel
theorem zd94_363 : zDf 94 363 .le 388 366 = true := by decide +kernel
theorem zd94_366 : zD 94 366 (.aload_n 0) 1 367 = true := by decide +kernel
theorem zd94_367 : zDg 94 367 370 7 6 (.array .int) = true := by decide +kernel
theorem zd94_370 : zD 94 370 (.iload 10) 2 372 = true := by decide +kernel
theorem zd94_372 : zD 94 372 (.aload_n 0) 1 373 = true := by decide +kernel
theorem zd94_373 : zDg 94 373 376 7 6 (.array .int) = true := by decide +kernel
theorem zd94_376 : zD 94 376 (.iload 10) 2 378 = true := by decide +kernel
theorem zd94_378 : zDc 94 378 379 (Int32.ofNat 1) = true := by decide +kernel
theorem zd94_379 : zD 94 379 .isub 1 380 = true := by decide +kernel
theorem zd94_380 : zD 94 380 .iaload 1 381 = true := by decide +kernel
theorem zd94_381 : zD 94 381 .iastore 1 382 = true := by decide +kernel
theorem zd94_382 : zDi 94 382 385 10 (-(Int32.ofNat 1)) = true := by decide +kernel
theorem zd94_385 : zDj 94 385 361 = true := by decide +kernel
theorem zd94_388 : zD 94 388 (.aload_n 0) 1 389 = true := by decide +kernel
theorem zd94_389 : zDg 94 389 392 7 6 (.array .int) = true := by decide +kernel
theorem zd94_392 : zDc 94 392 393 (Int32.ofNat 4) = true := by decide +kernel
theorem zd94_393 : zD 94 393 .dup2 1 394 = true := by decide +kernel
theorem zd94_394 : zD 94 394 .iaload 1 395 = true := by decide +kernel
theorem zd94_395 : zD 94 395 (.iload 7) 2 397 = true := by decide +kernel
theorem zd94_397 : zD 94 397 .iadd 1 398 = true := by decide +kernel
theorem zd94_398 : zD 94 398 .iastore 1 399 = true := by decide +kernel
theorem zd94_399 : zD 94 399 (.aload_n 0) 1 400 = true := by decide +kernel
theorem zd94_400 : zDg 94 400 403 7 6 (.array .int) = true := by decide +kernel
theorem zd94_403 : zDc 94 403 404 (Int32.ofNat 0) = true := by decide +kernel
theorem zd94_404 : zD 94 404 (.iload 7) 2 406 = true := by decide +kernel
theorem zd94_406 : zD 94 406 (.iload 8) 2 408 = true := by decide +kernel
theorem zd94_408 : zD 94 408 .iadd 1 409 = true := by decide +kernel
theorem zd94_409 : zD 94 409 (.iload 9) 2 411 = true := by decide +kernel
theorem zd94_411 : zD 94 411 .iadd 1 412 = true := by decide +kernel
theorem zd94_412 : zD 94 412 .iastore 1 413 = true := by decide +kernel
theorem zd94_413 : zDi 94 413 416 2 (Int32.ofNat 1) = true := by decide +kernel
theorem zd94_416 : zDj 94 416 204 = true := by decide +kernel
theorem zd94_419 : zDc 94 419 420 (Int32.ofNat 0) = true := by decide +kernel
theorem zd94_420 : zD 94 420 (.istore_n 2) 1 421 = true := by decide +kernel
theorem zd94_421 : zD 94 421 (.iload_n 2) 1 422 = true := by decide +kernel
theorem zd94_422 : zDc 94 422 424 (Int32.ofNat 8) = true := by decide +kernel
theorem zd94_424 : zDm 94 424 .ge 448 427 = true := by decide +kernel
theorem zd94_427 : zD 94 427 (.aload_n 0) 1 428 = true := by decide +kernel
theorem zd94_428 : zDg 94 428 431 7 5 (.array .int) = true := by decide +kernel
theorem zd94_431 : zD 94 431 (.iload_n 2) 1 432 = true := by decide +kernel
theorem zd94_432 : zD 94 432 .dup2 1 433 = true := by decide +kernel
theorem zd94_433 : zD 94 433 .iaload 1 434 = true := by decide +kernel
theorem zd94_434 : zD 94 434 (.aload_n 0) 1 435 = true := by decide +kernel
theorem zd94_435 : zDg 94 435 438 7 6 (.array .int) = true := by decide +kernel
theorem zd94_438 : zD 94 438 (.iload_n 2) 1 439 = true := by decide +kernel
theorem zd94_439 : zD 94 439 .iaload 1 440 = true := by decide +kernel
theorem zd94_440 : zD 94 440 .iadd 1 441 = true := by decide +kernel
theorem zd94_441 : zD 94 441 .iastore 1 442 = true := by decide +kernel
theorem zd94_442 : zDi 94 442 445 2 (Int32.ofNat 1) = true := by decide +kernel
theorem zd94_445 : zDj 94 445 421 = true := by decide +kernel
theorem zd94_448 : zD 94 448 .return_ 1 449 = true := by decide +kernel
theorem zd95_0 : zD 95 0 (.iload_n 0) 1 1 = true := by decide +kernel
theorem zd95_1 : zD 95 1 (.iload_n 1) 1 2 = true := by decide +kernel
theorem zd95_2 : zD 95 2 .iushr 1 3 = true := by decide +kernel
theorem zd95_3 : zD 95 3 (.iload_n 0) 1 4 = true := by decide +kernel
theorem zd95_4 : zDc 95 4 6 (Int32.ofNat 32) = true := by decide +kernel
theorem zd95_6 : zD 95 6 (.iload_n 1) 1 7 = true := by decide +kernel
theorem zd95_7 : zD 95 7 .isub 1 8 = true := by decide +kernel
theorem zd95_8 : zD 95 8 .ishl 1 9 = true := by decide +kernel
theorem zd95_9 : zD 95 9 .ior 1 10 = true := by decide +kernel
theorem zd95_10 : zD 95 10 .ireturn 1 11 = true := by decide +kernel
theorem zd96_0 : zD 96 0 (.aload_n 0) 1 1 = true := by decide +kernel
theorem zd96_1 : zD 96 1 (.aload_n 0) 1 2 = true := by decide +kernel
theorem zd96_2 : zDg 96 2 5 7 9 (.array .int) = true := by decide +kernel
theorem zd96_5 : zD 96 5 (.iload_n 1) 1 6 = true := by decide +kernel
theorem zd96_6 : zD 96 6 .iaload 1 7 = true := by decide +kernel
theorem zd96_7 : zDp 96 7 10 7 15 (.int) = true := by decide +kernel
theorem zd96_10 : zDc 96 10 11 (Int32.ofNat 0) = true := by decide +kernel
theorem zd96_11 : zD 96 11 (.istore_n 2) 1 12 = true := by decide +kernel
theorem zd96_12 : zD 96 12 (.iload_n 2) 1 13 = true := by decide +kernel
theorem zd96_13 : zDc 96 13 15 (Int32.ofNat 32) = true := by decide +kernel
theorem zd96_15 : zD 96 15 (.aload_n 0) 1 16 = true := by decide +kernel
theorem zd96_16 : zDg 96 16 19 7 15 (.int) = true := by decide +kernel
theorem zd96_19 : zD 96 19 .imul 1 20 = true := by decide +kernel
theorem zd96_20 : zDm 96 20 .ge 47 23 = true := by decide +kernel
theorem zd96_23 : zD 96 23 (.aload_n 0) 1 24 = true := by decide +kernel
theorem zd96_24 : zDg 96 24 27 7 16 (.array .int) = true := by decide +kernel
theorem zd96_27 : zD 96 27 (.iload_n 2) 1 28 = true := by decide +kernel
theorem zd96_28 : zD 96 28 (.aload_n 0) 1 29 = true := by decide +kernel
theorem zd96_29 : zDg 96 29 32 7 13 (.array .int) = true := by decide +kernel
theorem zd96_32 : zDc 96 32 35 (Int32.ofNat 256) = true := by decide +kernel
theorem zd96_35 : zD 96 35 (.iload_n 1) 1 36 = true := by decide +kernel
theorem zd96_36 : zD 96 36 .imul 1 37 = true := by decide +kernel
theorem zd96_37 : zD 96 37 (.iload_n 2) 1 38 = true := by decide +kernel
theorem zd96_38 : zD 96 38 .iadd 1 39 = true := by decide +kernel
theorem zd96_39 : zD 96 39 .iaload 1 40 = true := by decide +kernel
theorem zd96_40 : zD 96 40 .iastore 1 41 = true := by decide +kernel
theorem zd96_41 : zDi 96 41 44 2 (Int32.ofNat 1) = true := by decide +kernel
theorem zd96_44 : zDj 96 44 12 = true := by decide +kernel
theorem zd96_47 : zD 96 47 .return_ 1 48 = true := by decide +kernel
theorem zd97_0 : zDc 97 0 1 (Int32.ofNat 0) = true := by decide +kernel
theorem zd97_1 : zD 97 1 (.istore_n 1) 1 2 = true := by decide +kernel
theorem zd97_2 : zD 97 2 (.iload_n 1) 1 3 = true := by decide +kernel
theorem zd97_3 : zD 97 3 (.aload_n 0) 1 4 = true := by decide +kernel
theorem zd97_4 : zDg 97 4 7 7 15 (.int) = true := by decide +kernel
theorem zd97_7 : zDm 97 7 .ge 132 10 = true := by decide +kernel
theorem zd97_10 : zD 97 10 (.iload_n 1) 1 11 = true := by decide +kernel
theorem zd97_11 : zDc 97 11 12 (Int32.ofNat 1) = true := by decide +kernel
theorem zd97_12 : zD 97 12 .iadd 1 13 = true := by decide +kernel
theorem zd97_13 : zD 97 13 (.aload_n 0) 1 14 = true := by decide +kernel
theorem zd97_14 : zDg 97 14 17 7 15 (.int) = true := by decide +kernel
theorem zd97_17 : zDm 97 17 .ne 59 20 = true := by decide +kernel
theorem zd97_20 : zDc 97 20 21 (Int32.ofNat 0) = true := by decide +kernel
theorem zd97_21 : zD 97 21 (.istore_n 2) 1 22 = true := by decide +kernel
theorem zd97_22 : zD 97 22 (.iload_n 2) 1 23 = true := by decide +kernel
theorem zd97_23 : zDc 97 23 25 (Int32.ofNat 32) = true := by decide +kernel
theorem zd97_25 : zDm 97 25 .ge 56 28 = true := by decide +kernel
theorem zd97_28 : zD 97 28 (.aload_n 0) 1 29 = true := by decide +kernel
theorem zd97_29 : zDg 97 29 32 7 16 (.array .int) = true := by decide +kernel
theorem zd97_32 : zDc 97 32 34 (Int32.ofNat 16) = true := by decide +kernel
theorem zd97_34 : zD 97 34 (.iload_n 1) 1 35 = true := by decide +kernel
theorem zd97_35 : zD 97 35 .imul 1 36 = true := by decide +kernel
theorem zd97_36 : zD 97 36 (.iload_n 2) 1 37 = true := by decide +kernel
theorem zd97_37 : zD 97 37 .iadd 1 38 = true := by decide +kernel
theorem zd97_38 : zD 97 38 (.aload_n 0) 1 39 = true := by decide +kernel
theorem zd97_39 : zDg 97 39 42 7 16 (.array .int) = true := by decide +kernel
theorem zd97_42 : zDc 97 42 44 (Int32.ofNat 32) = true := by decide +kernel
theorem zd97_44 : zD 97 44 (.iload_n 1) 1 45 = true := by decide +kernel
theorem zd97_45 : zD 97 45 .imul 1 46 = true := by decide +kernel
theorem zd97_46 : zD 97 46 (.iload_n 2) 1 47 = true := by decide +kernel
theorem zd97_47 : zD 97 47 .iadd 1 48 = true := by decide +kernel
theorem zd97_48 : zD 97 48 .iaload 1 49 = true := by decide +kernel
theorem zd97_49 : zD 97 49 .iastore 1 50 = true := by decide +kernel
theorem zd97_50 : zDi 97 50 53 2 (Int32.ofNat 1) = true := by decide +kernel
theorem zd97_53 : zDj 97 53 22 = true := by decide +kernel
theorem zd97_56 : zDj 97 56 126 = true := by decide +kernel
theorem zd97_59 : zD 97 59 (.aload_n 0) 1 60 = true := by decide +kernel
theorem zd97_60 : zDc 97 60 61 (Int32.ofNat 1) = true := by decide +kernel
theorem zd97_61 : zDk 97 61 64 92 0 = true := by decide +kernel
theorem zd97_64 : zD 97 64 (.aload_n 0) 1 65 = true := by decide +kernel
theorem zd97_65 : zD 97 65 (.aload_n 0) 1 66 = true := by decide +kernel
theorem zd97_66 : zDg 97 66 69 7 16 (.array .int) = true := by decide +kernel
theorem zd97_69 : zDc 97 69 71 (Int32.ofNat 32) = true := by decide +kernel
theorem zd97_71 : zD 97 71 (.iload_n 1) 1 72 = true := by decide +kernel
theorem zd97_72 : zD 97 72 .imul 1 73 = true := by decide +kernel
theorem zd97_73 : zDk 97 73 76 98 0 = true := by decide +kernel
theorem zd97_76 : zD 97 76 (.aload_n 0) 1 77 = true := by decide +kernel
theorem zd97_77 : zD 97 77 (.aload_n 0) 1 78 = true := by decide +kernel
theorem zd97_78 : zDg 97 78 81 7 16 (.array .int) = true := by decide +kernel
theorem zd97_81 : zDc 97 81 83 (Int32.ofNat 32) = true := by decide +kernel
theorem zd97_83 : zD 97 83 (.iload_n 1) 1 84 = true := by decide +kernel
theorem zd97_84 : zD 97 84 .imul 1 85 = true := by decide +kernel
theorem zd97_85 : zDc 97 85 87 (Int32.ofNat 32) = true := by decide +kernel
theorem zd97_87 : zD 97 87 .iadd 1 88 = true := by decide +kernel
theorem zd97_88 : zDk 97 88 91 98 0 = true := by decide +kernel
theorem zd97_91 : zD 97 91 (.aload_n 0) 1 92 = true := by decide +kernel
theorem zd97_92 : zDk 97 92 95 93 0 = true := by decide +kernel
theorem zd97_95 : zDc 97 95 96 (Int32.ofNat 0) = true := by decide +kernel
theorem zd97_96 : zD 97 96 (.istore_n 2) 1 97 = true := by decide +kernel
theorem zd97_97 : zD 97 97 (.iload_n 2) 1 98 = true := by decide +kernel
theorem zd97_98 : zDc 97 98 100 (Int32.ofNat 32) = true := by decide +kernel
theorem zd97_100 : zDm 97 100 .ge 126 103 = true := by decide +kernel
theorem zd97_103 : zD 97 103 (.aload_n 0) 1 104 = true := by decide +kernel
theorem zd97_104 : zDg 97 104 107 7 16 (.array .int) = true := by decide +kernel
theorem zd97_107 : zDc 97 107 109 (Int32.ofNat 16) = true := by decide +kernel
theorem zd97_109 : zD 97 109 (.iload_n 1) 1 110 = true := by decide +kernel
theorem zd97_110 : zD 97 110 .imul 1 111 = true := by decide +kernel
theorem zd97_111 : zD 97 111 (.iload_n 2) 1 112 = true := by decide +kernel
theorem zd97_112 : zD 97 112 .iadd 1 113 = true := by decide +kernel
theorem zd97_113 : zD 97 113 (.aload_n 0) 1 114 = true := by decide +kernel
theorem zd97_114 : zDg 97 114 117 7 7 (.array .int) = true := by decide +kernel
theorem zd97_117 : zD 97 117 (.iload_n 2) 1 118 = true := by decide +kernel
theorem zd97_118 : zD 97 118 .iaload 1 119 = true := by decide +kernel
theorem zd97_119 : zD 97 119 .iastore 1 120 = true := by decide +kernel
theorem zd97_120 : zDi 97 120 123 2 (Int32.ofNat 1) = true := by decide +kernel
theorem zd97_123 : zDj 97 123 97 = true := by decide +kernel
theorem zd97_126 : zDi 97 126 129 1 (Int32.ofNat 2) = true := by decide +kernel
theorem zd97_129 : zDj 97 129 2 = true := by decide +kernel
theorem zd97_132 : zD 97 132 (.aload_n 0) 1 133 = true := by decide +kernel
theorem zd97_133 : zD 97 133 (.aload_n 0) 1 134 = true := by decide +kernel
theorem zd97_134 : zDg 97 134 137 7 15 (.int) = true := by decide +kernel
theorem zd97_137 : zDc 97 137 138 (Int32.ofNat 1) = true := by decide +kernel
theorem zd97_138 : zD 97 138 .iadd 1 139 = true := by decide +kernel
theorem zd97_139 : zDc 97 139 140 (Int32.ofNat 2) = true := by decide +kernel
theorem zd97_140 : zD 97 140 .idiv 1 141 = true := by decide +kernel
theorem zd97_141 : zDp 97 141 144 7 15 (.int) = true := by decide +kernel
theorem zd97_144 : zD 97 144 .return_ 1 145 = true := by decide +kernel
theorem zd98_0 : zDc 98 0 1 (Int32.ofNat 0) = true := by decide +kernel
theorem zd98_1 : zD 98 1 (.istore_n 3) 1 2 = true := by decide +kernel
theorem zd98_2 : zD 98 2 (.iload_n 3) 1 3 = true := by decide +kernel
theorem zd98_3 : zDc 98 3 5 (Int32.ofNat 32) = true := by decide +kernel
theorem zd98_5 : zDm 98 5 .ge 23 8 = true := by decide +kernel
theorem zd98_8 : zD 98 8 (.aload_n 0) 1 9 = true := by decide +kernel
theorem zd98_9 : zD 98 9 (.aload_n 1) 1 10 = true := by decide +kernel
theorem zd98_10 : zD 98 10 (.iload_n 2) 1 11 = true := by decide +kernel
theorem zd98_11 : zD 98 11 (.iload_n 3) 1 12 = true := by decide +kernel
theorem zd98_12 : zD 98 12 .iadd 1 13 = true := by decide +kernel
theorem zd98_13 : zD 98 13 .iaload 1 14 = true := by decide +kernel
theorem zd98_14 : zDk 98 14 17 92 0 = true := by decide +kernel
theorem zd98_17 : zDi 98 17 20 3 (Int32.ofNat 1) = true := by decide +kernel
theorem zd98_20 : zDj 98 20 2 = true := by decide +kernel
theorem zd98_23 : zD 98 23 .return_ 1 24 = true := by decide +kernel
theorem zd99_0 : zD 99 0 (.aload_n 0) 1 1 = true := by decide +kernel
theorem zd99_1 : zDc 99 1 2 (Int32.ofNat 0) = true := by decide +kernel
theorem zd99_2 : zDp 99 2 5 7 0 (.int) = true := by decide +kernel
theorem zd99_5 : zD 99 5 (.aload_n 0) 1 6 = true := by decide +kernel
theorem zd99_6 : zDg 99 6 9 7 8 (.int) = true := by decide +kernel
theorem zd99_9 : zD 99 9 .ireturn 1 10 = true := by decide +kernel
theorem zd100_0 : zD 100 0 (.aload_n 0) 1 1 = true := by decide +kernel
theorem zd100_1 : zD 100 1 (.aload_n 0) 1 2 = true := by decide +kernel
theorem zd100_2 : zD 100 2 (.iload_n 1) 1 3 = true := by decide +kernel
theorem zd100_3 : zDk 100 3 6 101 0 = true := by decide +kernel
theorem zd100_6 : zDf 100 6 .eq 23 9 = true := by decide +kernel
theorem zd100_9 : zD 100 9 (.iload_n 2) 1 10 = true := by decide +kernel
theorem zd100_10 : zDf 100 10 .lt 23 13 = true := by decide +kernel
theorem zd100_13 : zD 100 13 (.iload_n 2) 1 14 = true := by decide +kernel
theorem zd100_14 : zDc 100 14 16 (Int32.ofNat 32) = true := by decide +kernel
theorem zd100_16 : zDm 100 16 .ge 23 19 = true := by decide +kernel
theorem zd100_19 : zDc 100 19 20 (Int32.ofNat 0) = true := by decide +kernel
theorem zd100_20 : zDj 100 20 24 = true := by decide +kernel
theorem zd100_23 : zDc 100 23 24 (Int32.ofNat 1) = true := by decide +kernel
theorem zd100_24 : zDp 100 24 27 7 0 (.int) = true := by decide +kernel
theorem zd100_27 : zD 100 27 (.aload_n 0) 1 28 = true := by decide +kernel
theorem zd100_28 : zDg 100 28 31 7 0 (.int) = true := by decide +kernel
theorem zd100_31 : zDf 100 31 .ne 48 34 = true := by decide +kernel
theorem zd100_34 : zD 100 34 (.aload_n 0) 1 35 = true := by decide +kernel
theorem zd100_35 : zDg 100 35 38 7 14 (.array .int) = true := by decide +kernel
theorem zd100_38 : zDc 100 38 40 (Int32.ofNat 32) = true := by decide +kernel
theorem zd100_40 : zD 100 40 (.iload_n 1) 1 41 = true := by decide +kernel
theorem zd100_41 : zD 100 41 .imul 1 42 = true := by decide +kernel
theorem zd100_42 : zD 100 42 (.iload_n 2) 1 43 = true := by decide +kernel
theorem zd100_43 : zD 100 43 .iadd 1 44 = true := by decide +kernel
theorem zd100_44 : zD 100 44 .iaload 1 45 = true := by decide +kernel
theorem zd100_45 : zDj 100 45 49 = true := by decide +kernel
theorem zd100_48 : zDc 100 48 49 (Int32.ofNat 0) = true := by decide +kernel
theorem zd100_49 : zD 100 49 .ireturn 1 50 = true := by decide +kernel
theorem zd101_0 : zD 101 0 (.iload_n 1) 1 1 = true := by decide +kernel
theorem zd101_1 : zDf 101 1 .lt 16 4 = true := by decide +kernel
theorem zd101_4 : zD 101 4 (.iload_n 1) 1 5 = true := by decide +kernel
theorem zd101_5 : zD 101 5 (.aload_n 0) 1 6 = true := by decide +kernel
theorem zd101_6 : zDg 101 6 9 7 8 (.int) = true := by decide +kernel
theorem zd101_9 : zDm 101 9 .ge 16 12 = true := by decide +kernel
theorem zd101_12 : zDc 101 12 13 (Int32.ofNat 1) = true := by decide +kernel
theorem zd101_13 : zDj 101 13 17 = true := by decide +kernel
theorem zd101_16 : zDc 101 16 17 (Int32.ofNat 0) = true := by decide +kernel
theorem zd101_17 : zD 101 17 .ireturn 1 18 = true := by decide +kernel
theorem zd102_0 : zD 102 0 (.aload_n 0) 1 1 = true := by decide +kernel
theorem zd102_1 : zD 102 1 (.aload_n 0) 1 2 = true := by decide +kernel
theorem zd102_2 : zD 102 2 (.iload_n 1) 1 3 = true := by decide +kernel
theorem zd102_3 : zD 102 3 (.iload_n 2) 1 4 = true := by decide +kernel
theorem zd102_4 : zDk 102 4 7 103 0 = true := by decide +kernel
theorem zd102_7 : zDf 102 7 .eq 24 10 = true := by decide +kernel
theorem zd102_10 : zD 102 10 (.iload_n 3) 1 11 = true := by decide +kernel
theorem zd102_11 : zDf 102 11 .lt 24 14 = true := by decide +kernel
theorem zd102_14 : zD 102 14 (.iload_n 3) 1 15 = true := by decide +kernel
theorem zd102_15 : zDc 102 15 17 (Int32.ofNat 32) = true := by decide +kernel
theorem zd102_17 : zDm 102 17 .ge 24 20 = true := by decide +kernel
theorem zd102_20 : zDc 102 20 21 (Int32.ofNat 0) = true := by decide +kernel
theorem zd102_21 : zDj 102 21 25 = true := by decide +kernel
theorem zd102_24 : zDc 102 24 25 (Int32.ofNat 1) = true := by decide +kernel
theorem zd102_25 : zDp 102 25 28 7 0 (.int) = true := by decide +kernel
theorem zd102_28 : zD 102 28 (.aload_n 0) 1 29 = true := by decide +kernel
theorem zd102_29 : zDg 102 29 32 7 0 (.int) = true := by decide +kernel
theorem zd102_32 : zDf 102 32 .ne 54 35 = true := by decide +kernel
theorem zd102_35 : zD 102 35 (.aload_n 0) 1 36 = true := by decide +kernel
theorem zd102_36 : zDg 102 36 39 7 13 (.array .int) = true := by decide +kernel
theorem zd102_39 : zDc 102 39 41 (Int32.ofNat 32) = true := by decide +kernel
theorem zd102_41 : zDc 102 41 43 (Int32.ofNat 8) = true := by decide +kernel
theorem zd102_43 : zD 102 43 (.iload_n 1) 1 44 = true := by decide +kernel
theorem zd102_44 : zD 102 44 .imul 1 45 = true := by decide +kernel
theorem zd102_45 : zD 102 45 (.iload_n 2) 1 46 = true := by decide +kernel
theorem zd102_46 : zD 102 46 .iadd 1 47 = true := by decide +kernel
theorem zd102_47 : zD 102 47 .imul 1 48 = true := by decide +kernel
theorem zd102_48 : zD 102 48 (.iload_n 3) 1 49 = true := by decide +kernel
theorem zd102_49 : zD 102 49 .iadd 1 50 = true := by decide +kernel
theorem zd102_50 : zD 102 50 .iaload 1 51 = true := by decide +kernel
theorem zd102_51 : zDj 102 51 55 = true := by decide +kernel
theorem zd102_54 : zDc 102 54 55 (Int32.ofNat 0) = true := by decide +kernel
theorem zd102_55 : zD 102 55 .ireturn 1 56 = true := by decide +kernel
theorem zd103_0 : zD 103 0 (.aload_n 0) 1 1 = true := by decide +kernel
theorem zd103_1 : zD 103 1 (.iload_n 1) 1 2 = true := by decide +kernel
theorem zd103_2 : zDk 103 2 5 101 0 = true := by decide +kernel
theorem zd103_5 : zDf 103 5 .eq 26 8 = true := by decide +kernel
theorem zd103_8 : zD 103 8 (.iload_n 2) 1 9 = true := by decide +kernel
theorem zd103_9 : zDf 103 9 .lt 26 12 = true := by decide +kernel
theorem zd103_12 : zD 103 12 (.iload_n 2) 1 13 = true := by decide +kernel
theorem zd103_13 : zD 103 13 (.aload_n 0) 1 14 = true := by decide +kernel
theorem zd103_14 : zDg 103 14 17 7 9 (.array .int) = true := by decide +kernel
theorem zd103_17 : zD 103 17 (.iload_n 1) 1 18 = true := by decide +kernel
theorem zd103_18 : zD 103 18 .iaload 1 19 = true := by decide +kernel
theorem zd103_19 : zDm 103 19 .ge 26 22 = true := by decide +kernel
theorem zd103_22 : zDc 103 22 23 (Int32.ofNat 1) = true := by decide +kernel
theorem zd103_23 : zDj 103 23 27 = true := by decide +kernel
theorem zd103_26 : zDc 103 26 27 (Int32.ofNat 0) = true := by decide +kernel
theorem zd103_27 : zD 103 27 .ireturn 1 28 = true := by decide +kernel
theorem zd104_0 : zD 104 0 (.aload_n 0) 1 1 = true := by decide +kernel
theorem zd104_1 : zD 104 1 (.aload_n 0) 1 2 = true := by decide +kernel
theorem zd104_2 : zD 104 2 (.iload_n 1) 1 3 = true := by decide +kernel
theorem zd104_3 : zD 104 3 (.iload_n 2) 1 4 = true := by decide +kernel
theorem zd104_4 : zDk 104 4 7 103 0 = true := by decide +kernel
theorem zd104_7 : zDf 104 7 .eq 18 10 = true := by decide +kernel
theorem zd104_10 : zD 104 10 (.iload_n 3) 1 11 = true := by decide +kernel
theorem zd104_11 : zDf 104 11 .lt 18 14 = true := by decide +kernel
theorem zd104_14 : zDc 104 14 15 (Int32.ofNat 0) = true := by decide +kernel
theorem zd104_15 : zDj 104 15 19 = true := by decide +kernel
theorem zd104_18 : zDc 104 18 19 (Int32.ofNat 1) = true := by decide +kernel
theorem zd104_19 : zDp 104 19 22 7 0 (.int) = true := by decide +kernel
theorem zd104_22 : zD 104 22 (.aload_n 0) 1 23 = true := by decide +kernel
theorem zd104_23 : zDg 104 23 26 7 0 (.int) = true := by decide +kernel
theorem zd104_26 : zDf 104 26 .eq 31 29 = true := by decide +kernel
theorem zd104_29 : zDc 104 29 30 (Int32.ofNat 0) = true := by decide +kernel
theorem zd104_30 : zD 104 30 .ireturn 1 31 = true := by decide +kernel
theorem zd104_31 : zD 104 31 (.aload_n 0) 1 32 = true := by decide +kernel
theorem zd104_32 : zD 104 32 (.iload_n 3) 1 33 = true := by decide +kernel
theorem zd104_33 : zDk 104 33 36 105 0 = true := by decide +kernel
theorem zd104_36 : zD 104 36 (.aload_n 0) 1 37 = true := by decide +kernel
theorem zd104_37 : zD 104 37 (.iload_n 2) 1 38 = true := by decide +kernel
theorem zd104_38 : zD 104 38 (.aload_n 0) 1 39 = true := by decide +kernel
theorem zd104_39 : zDg 104 39 42 7 9 (.array .int) = true := by decide +kernel
theorem zd104_42 : zD 104 42 (.iload_n 1) 1 43 = true := by decide +kernel
theorem zd104_43 : zD 104 43 .iaload 1 44 = true := by decide +kernel
theorem zd104_44 : zDk 104 44 47 106 2 = true := by decide +kernel
theorem zd104_47 : zDk 104 47 50 107 0 = true := by decide +kernel
theorem zd104_50 : zD 104 50 (.aload_n 0) 1 51 = true := by decide +kernel
theorem zd104_51 : zD 104 51 (.iload_n 1) 1 52 = true := by decide +kernel
theorem zd104_52 : zDk 104 52 55 96 0 = true := by decide +kernel
theorem zd104_55 : zD 104 55 (.iload_n 2) 1 56 = true := by decide +kernel
theorem zd104_56 : zD 104 56 (.istore 4) 2 58 = true := by decide +kernel
theorem zd104_58 : zD 104 58 (.aload_n 0) 1 59 = true := by decide +kernel
theorem zd104_59 : zDg 104 59 62 7 15 (.int) = true := by decide +kernel
theorem zd104_62 : zDc 104 62 63 (Int32.ofNat 1) = true := by decide +kernel
theorem zd104_63 : zDm 104 63 .le 143 66 = true := by decide +kernel
theorem zd104_66 : zD 104 66 (.iload 4) 2 68 = true := by decide +kernel
theorem zd104_68 : zDc 104 68 69 (Int32.ofNat 1) = true := by decide +kernel
theorem zd104_69 : zD 104 69 .ixor 1 70 = true := by decide +kernel
theorem zd104_70 : zD 104 70 (.istore 5) 2 72 = true := by decide +kernel
theorem zd104_72 : zD 104 72 (.iload 5) 2 74 = true := by decide +kernel
theorem zd104_74 : zD 104 74 (.aload_n 0) 1 75 = true := by decide +kernel
theorem zd104_75 : zDg 104 75 78 7 15 (.int) = true := by decide +kernel
theorem zd104_78 : zDm 104 78 .ge 130 81 = true := by decide +kernel
theorem zd104_81 : zD 104 81 (.aload_n 0) 1 82 = true := by decide +kernel
theorem zd104_82 : zD 104 82 (.iload 5) 2 84 = true := by decide +kernel
theorem zd104_84 : zD 104 84 (.iload 4) 2 86 = true := by decide +kernel
theorem zd104_86 : zDm 104 86 .ge 93 89 = true := by decide +kernel
theorem zd104_89 : zDc 104 89 90 (Int32.ofNat 0) = true := by decide +kernel
theorem zd104_90 : zDj 104 90 94 = true := by decide +kernel
theorem zd104_93 : zDc 104 93 94 (Int32.ofNat 1) = true := by decide +kernel
theorem zd104_94 : zDk 104 94 97 107 0 = true := by decide +kernel
theorem zd104_97 : zDc 104 97 98 (Int32.ofNat 0) = true := by decide +kernel
theorem zd104_98 : zD 104 98 (.istore 6) 2 100 = true := by decide +kernel
theorem zd104_100 : zD 104 100 (.iload 6) 2 102 = true := by decide +kernel
theorem zd104_102 : zDc 104 102 104 (Int32.ofNat 32) = true := by decide +kernel
theorem zd104_104 : zDm 104 104 .ge 130 107 = true := by decide +kernel
theorem zd104_107 : zD 104 107 (.aload_n 0) 1 108 = true := by decide +kernel
theorem zd104_108 : zD 104 108 (.aload_n 0) 1 109 = true := by decide +kernel
theorem zd104_109 : zDg 104 109 112 7 16 (.array .int) = true := by decide +kernel
theorem zd104_112 : zDc 104 112 114 (Int32.ofNat 32) = true := by decide +kernel
theorem zd104_114 : zD 104 114 (.iload 5) 2 116 = true := by decide +kernel
theorem zd104_116 : zD 104 116 .imul 1 117 = true := by decide +kernel
theorem zd104_117 : zD 104 117 (.iload 6) 2 119 = true := by decide +kernel
theorem zd104_119 : zD 104 119 .iadd 1 120 = true := by decide +kernel
theorem zd104_120 : zD 104 120 .iaload 1 121 = true := by decide +kernel
theorem zd104_121 : zDk 104 121 124 107 0 = true := by decide +kernel
theorem zd104_124 : zDi 104 124 127 6 (Int32.ofNat 1) = true := by decide +kernel
theorem zd104_127 : zDj 104 127 100 = true := by decide +kernel
theorem zd104_130 : zD 104 130 (.aload_n 0) 1 131 = true := by decide +kernel
theorem zd104_131 : zDk 104 131 134 97 0 = true := by decide +kernel
theorem zd104_134 : zD 104 134 (.iload 4) 2 136 = true := by decide +kernel
theorem zd104_136 : zDc 104 136 137 (Int32.ofNat 2) = true := by decide +kernel
theorem zd104_137 : zD 104 137 .idiv 1 138 = true := by decide +kernel
theorem zd104_138 : zD 104 138 (.istore 4) 2 140 = true := by decide +kernel
theorem zd104_140 : zDj 104 140 58 = true := by decide +kernel
theorem zd104_143 : zD 104 143 (.aload_n 0) 1 144 = true := by decide +kernel
theorem zd104_144 : zDg 104 144 147 7 31 (.int) = true := by decide +kernel
theorem zd104_147 : zD 104 147 .ireturn 1 148 = true := by decide +kernel
theorem zd105_0 : zD 105 0 (.aload_n 0) 1 1 = true := by decide +kernel
theorem zd105_1 : zD 105 1 (.iload_n 1) 1 2 = true := by decide +kernel
theorem zd105_2 : zDp 105 2 5 7 29 (.int) = true := by decide +kernel
theorem zd105_5 : zD 105 5 (.aload_n 0) 1 6 = true := by decide +kernel
theorem zd105_6 : zDc 105 6 7 (Int32.ofNat 0) = true := by decide +kernel
theorem zd105_7 : zDp 105 7 10 7 30 (.int) = true := by decide +kernel
theorem zd105_10 : zD 105 10 (.aload_n 0) 1 11 = true := by decide +kernel
theorem zd105_11 : zDc 105 11 12 (-1) = true := by decide +kernel
theorem zd105_12 : zDp 105 12 15 7 31 (.int) = true := by decide +kernel
theorem zd105_15 : zD 105 15 .return_ 1 16 = true := by decide +kernel
theorem zd106_0 : zDc 106 0 1 (Int32.ofNat 0) = true := by decide +kernel
theorem zd106_1 : zD 106 1 (.istore_n 2) 1 2 = true := by decide +kernel
theorem zd106_2 : zD 106 2 (.iload_n 0) 1 3 = true := by decide +kernel
theorem zd106_3 : zD 106 3 (.istore_n 3) 1 4 = true := by decide +kernel
theorem zd106_4 : zD 106 4 (.iload_n 1) 1 5 = true := by decide +kernel
theorem zd106_5 : zD 106 5 (.istore 4) 2 7 = true := by decide +kernel
theorem zd106_7 : zD 106 7 (.iload 4) 2 9 = true := by decide +kernel
theorem zd106_9 : zDc 106 9 10 (Int32.ofNat 1) = true := by decide +kernel
theorem zd106_10 : zDm 106 10 .le 44 13 = true := by decide +kernel
theorem zd106_13 : zD 106 13 (.iload_n 2) 1 14 = true := by decide +kernel
theorem zd106_14 : zD 106 14 (.iload_n 3) 1 15 = true := by decide +kernel
theorem zd106_15 : zDc 106 15 16 (Int32.ofNat 1) = true := by decide +kernel
theorem zd106_16 : zD 106 16 .ixor 1 17 = true := by decide +kernel
theorem zd106_17 : zD 106 17 (.iload 4) 2 19 = true := by decide +kernel
theorem zd106_19 : zDm 106 19 .ge 26 22 = true := by decide +kernel
theorem zd106_22 : zDc 106 22 23 (Int32.ofNat 1) = true := by decide +kernel
theorem zd106_23 : zDj 106 23 27 = true := by decide +kernel
theorem zd106_26 : zDc 106 26 27 (Int32.ofNat 0) = true := by decide +kernel
theorem zd106_27 : zD 106 27 .iadd 1 28 = true := by decide +kernel
theorem zd106_28 : zD 106 28 (.istore_n 2) 1 29 = true := by decide +kernel
theorem zd106_29 : zD 106 29 (.iload_n 3) 1 30 = true := by decide +kernel
theorem zd106_30 : zDc 106 30 31 (Int32.ofNat 2) = true := by decide +kernel
theorem zd106_31 : zD 106 31 .idiv 1 32 = true := by decide +kernel
theorem zd106_32 : zD 106 32 (.istore_n 3) 1 33 = true := by decide +kernel
theorem zd106_33 : zD 106 33 (.iload 4) 2 35 = true := by decide +kernel
theorem zd106_35 : zDc 106 35 36 (Int32.ofNat 1) = true := by decide +kernel
theorem zd106_36 : zD 106 36 .iadd 1 37 = true := by decide +kernel
theorem zd106_37 : zDc 106 37 38 (Int32.ofNat 2) = true := by decide +kernel
theorem zd106_38 : zD 106 38 .idiv 1 39 = true := by decide +kernel
theorem zd106_39 : zD 106 39 (.istore 4) 2 41 = true := by decide +kernel
theorem zd106_41 : zDj 106 41 7 = true := by decide +kernel
theorem zd106_44 : zD 106 44 (.iload_n 2) 1 45 = true := by decide +kernel
theorem zd106_45 : zD 106 45 .ireturn 1 46 = true := by decide +kernel
theorem zd107_0 : zD 107 0 (.aload_n 0) 1 1 = true := by decide +kernel
theorem zd107_1 : zDg 107 1 4 7 30 (.int) = true := by decide +kernel
theorem zd107_4 : zD 107 4 (.aload_n 0) 1 5 = true := by decide +kernel
theorem zd107_5 : zDg 107 5 8 7 29 (.int) = true := by decide +kernel
theorem zd107_8 : zDm 107 8 .ne 16 11 = true := by decide +kernel
theorem zd107_11 : zD 107 11 (.aload_n 0) 1 12 = true := by decide +kernel
theorem zd107_12 : zD 107 12 (.iload_n 1) 1 13 = true := by decide +kernel
theorem zd107_13 : zDp 107 13 16 7 31 (.int) = true := by decide +kernel
theorem zd107_16 : zD 107 16 (.aload_n 0) 1 17 = true := by decide +kernel
theorem zd107_17 : zD 107 17 .dup 1 18 = true := by decide +kernel
theorem zd107_18 : zDg 107 18 21 7 30 (.int) = true := by decide +kernel
theorem zd107_21 : zDc 107 21 22 (Int32.ofNat 1) = true := by decide +kernel
theorem zd107_22 : zD 107 22 .iadd 1 23 = true := by decide +kernel
theorem zd107_23 : zDp 107 23 26 7 30 (.int) = true := by decide +kernel
theorem zd107_26 : zD 107 26 .return_ 1 27 = true := by decide +kernel
theorem zd108_0 : zD 108 0 (.aload_n 0) 1 1 = true := by decide +kernel
theorem zd108_1 : zDc 108 1 2 (Int32.ofNat 0) = true := by decide +kernel
theorem zd108_2 : zDp 108 2 5 7 0 (.int) = true := by decide +kernel
theorem zd108_5 : zD 108 5 (.iload_n 1) 1 6 = true := by decide +kernel
theorem zd108_6 : zDk 108 6 9 88 2 = true := by decide +kernel
theorem zd108_9 : zDf 108 9 .eq 22 12 = true := by decide +kernel
theorem zd108_12 : zD 108 12 (.aload_n 0) 1 13 = true := by decide +kernel
theorem zd108_13 : zDg 108 13 16 7 17 (.int) = true := by decide +kernel
theorem zd108_16 : zDc 108 16 19 (Int32.ofNat 300) = true := by decide +kernel
theorem zd108_19 : zDm 108 19 .ne 24 22 = true := by decide +kernel
theorem zd108_22 : zDc 108 22 23 (Int32.ofNat 0) = true := by decide +kernel
theorem zd108_23 : zD 108 23 .ireturn 1 24 = true := by decide +kernel
theorem zd108_24 : zD 108 24 (.aload_n 0) 1 25 = true := by decide +kernel
theorem zd108_25 : zDg 108 25 28 7 18 (.array .int) = true := by decide +kernel
theorem zd108_28 : zD 108 28 (.aload_n 0) 1 29 = true := by decide +kernel
theorem zd108_29 : zDg 108 29 32 7 17 (.int) = true := by decide +kernel
theorem zd108_32 : zD 108 32 (.iload_n 1) 1 33 = true := by decide +kernel
theorem zd108_33 : zD 108 33 .iastore 1 34 = true := by decide +kernel
theorem zd108_34 : zD 108 34 (.aload_n 0) 1 35 = true := by decide +kernel
theorem zd108_35 : zD 108 35 .dup 1 36 = true := by decide +kernel
theorem zd108_36 : zDg 108 36 39 7 17 (.int) = true := by decide +kernel
theorem zd108_39 : zDc 108 39 40 (Int32.ofNat 1) = true := by decide +kernel
theorem zd108_40 : zD 108 40 .iadd 1 41 = true := by decide +kernel
theorem zd108_41 : zDp 108 41 44 7 17 (.int) = true := by decide +kernel
theorem zd108_44 : zDc 108 44 45 (Int32.ofNat 1) = true := by decide +kernel
theorem zd108_45 : zD 108 45 .ireturn 1 46 = true := by decide +kernel
theorem zd109_0 : zD 109 0 (.aload_n 0) 1 1 = true := by decide +kernel
theorem zd109_1 : zDc 109 1 2 (Int32.ofNat 0) = true := by decide +kernel
theorem zd109_2 : zDp 109 2 5 7 0 (.int) = true := by decide +kernel
theorem zd109_5 : zD 109 5 (.aload_n 0) 1 6 = true := by decide +kernel
theorem zd109_6 : zDc 109 6 7 (Int32.ofNat 0) = true := by decide +kernel
theorem zd109_7 : zDp 109 7 10 7 17 (.int) = true := by decide +kernel
theorem zd109_10 : zD 109 10 .return_ 1 11 = true := by decide +kernel
theorem zd110_0 : zD 110 0 (.aload_n 0) 1 1 = true := by decide +kernel
theorem zd110_1 : zD 110 1 (.iload_n 1) 1 2 = true := by decide +kernel
theorem zd110_2 : zDf 110 2 .lt 17 5 = true := by decide +kernel
theorem zd110_5 : zD 110 5 (.iload_n 1) 1 6 = true := by decide +kernel
theorem zd110_6 : zD 110 6 (.aload_n 0) 1 7 = true := by decide +kernel
theorem zd110_7 : zDg 110 7 10 7 17 (.int) = true := by decide +kernel
theorem zd110_10 : zDm 110 10 .ge 17 13 = true := by decide +kernel
theorem zd110_13 : zDc 110 13 14 (Int32.ofNat 0) = true := by decide +kernel
theorem zd110_14 : zDj 110 14 18 = true := by decide +kernel
theorem zd110_17 : zDc 110 17 18 (Int32.ofNat 1) = true := by decide +kernel
theorem zd110_18 : zDp 110 18 21 7 0 (.int) = true := by decide +kernel
theorem zd110_21 : zD 110 21 (.aload_n 0) 1 22 = true := by decide +kernel
theorem zd110_22 : zDg 110 22 25 7 0 (.int) = true := by decide +kernel
theorem zd110_25 : zDf 110 25 .eq 30 28 = true := by decide +kernel
theorem zd110_28 : zDc 110 28 29 (Int32.ofNat 0) = true := by decide +kernel
theorem zd110_29 : zD 110 29 .ireturn 1 30 = true := by decide +kernel
theorem zd110_30 : zD 110 30 (.aload_n 0) 1 31 = true := by decide +kernel
theorem zd110_31 : zDg 110 31 34 7 18 (.array .int) = true := by decide +kernel
theorem zd110_34 : zD 110 34 (.iload_n 1) 1 35 = true := by decide +kernel
theorem zd110_35 : zD 110 35 (.aload_n 0) 1 36 = true := by decide +kernel
theorem zd110_36 : zDg 110 36 39 7 18 (.array .int) = true := by decide +kernel
theorem zd110_39 : zD 110 39 (.iload_n 1) 1 40 = true := by decide +kernel
theorem zd110_40 : zD 110 40 .iaload 1 41 = true := by decide +kernel
theorem zd110_41 : zD 110 41 (.iload_n 2) 1 42 = true := by decide +kernel
theorem zd110_42 : zDc 110 42 45 (Int32.ofNat 255) = true := by decide +kernel
theorem zd110_45 : zD 110 45 .iand 1 46 = true := by decide +kernel
theorem zd110_46 : zD 110 46 .ixor 1 47 = true := by decide +kernel
theorem zd110_47 : zD 110 47 .iastore 1 48 = true := by decide +kernel
theorem zd110_48 : zD 110 48 (.iload_n 2) 1 49 = true := by decide +kernel
theorem zd110_49 : zDc 110 49 52 (Int32.ofNat 255) = true := by decide +kernel
theorem zd110_52 : zD 110 52 .iand 1 53 = true := by decide +kernel
theorem zd110_53 : zDf 110 53 .eq 60 56 = true := by decide +kernel
theorem zd110_56 : zDc 110 56 57 (Int32.ofNat 1) = true := by decide +kernel
theorem zd110_57 : zDj 110 57 61 = true := by decide +kernel
theorem zd110_60 : zDc 110 60 61 (Int32.ofNat 0) = true := by decide +kernel
theorem zd110_61 : zD 110 61 .ireturn 1 62 = true := by decide +kernel
theorem zd111_0 : zD 111 0 (.aload_n 0) 1 1 = true := by decide +kernel
theorem zd111_1 : zDc 111 1 2 (Int32.ofNat 0) = true := by decide +kernel
theorem zd111_2 : zDp 111 2 5 7 0 (.int) = true := by decide +kernel
theorem zd111_5 : zD 111 5 (.aload_n 0) 1 6 = true := by decide +kernel
theorem zd111_6 : zDk 111 6 9 112 0 = true := by decide +kernel
theorem zd111_9 : zDf 111 9 .eq 16 12 = true := by decide +kernel
theorem zd111_12 : zDc 111 12 13 (Int32.ofNat 1) = true := by decide +kernel
theorem zd111_13 : zDj 111 13 17 = true := by decide +kernel
theorem zd111_16 : zDc 111 16 17 (Int32.ofNat 0) = true := by decide +kernel
theorem zd111_17 : zD 111 17 .ireturn 1 18 = true := by decide +kernel
theorem zd112_0 : zD 112 0 (.aload_n 0) 1 1 = true := by decide +kernel
theorem zd112_1 : zDg 112 1 4 7 17 (.int) = true := by decide +kernel
theorem zd112_4 : zDc 112 4 5 (Int32.ofNat 5) = true := by decide +kernel
theorem zd112_5 : zDm 112 5 .lt 21 8 = true := by decide +kernel
theorem zd112_8 : zD 112 8 (.aload_n 0) 1 9 = true := by decide +kernel
theorem zd112_9 : zD 112 9 (.aload_n 0) 1 10 = true := by decide +kernel
theorem zd112_10 : zDg 112 10 13 7 18 (.array .int) = true := by decide +kernel
theorem zd112_13 : zDc 112 13 14 (Int32.ofNat 0) = true := by decide +kernel
theorem zd112_14 : zD 112 14 .iaload 1 15 = true := by decide +kernel
theorem zd112_15 : zDk 112 15 18 101 0 = true := by decide +kernel
theorem zd112_18 : zDf 112 18 .ne 23 21 = true := by decide +kernel
theorem zd112_21 : zDc 112 21 22 (Int32.ofNat 0) = true := by decide +kernel
theorem zd112_22 : zD 112 22 .ireturn 1 23 = true := by decide +kernel
theorem zd112_23 : zD 112 23 (.aload_n 0) 1 24 = true := by decide +kernel
theorem zd112_24 : zDg 112 24 27 7 18 (.array .int) = true := by decide +kernel
theorem zd112_27 : zDc 112 27 28 (Int32.ofNat 3) = true := by decide +kernel
theorem zd112_28 : zD 112 28 .iaload 1 29 = true := by decide +kernel
theorem zd112_29 : zD 112 29 (.istore_n 1) 1 30 = true := by decide +kernel
theorem zd112_30 : zD 112 30 (.iload_n 1) 1 31 = true := by decide +kernel
theorem zd112_31 : zDc 112 31 33 (Int32.ofNat 64) = true := by decide +kernel
theorem zd112_33 : zDm 112 33 .gt 68 36 = true := by decide +kernel
theorem zd112_36 : zDc 112 36 37 (Int32.ofNat 5) = true := by decide +kernel
theorem zd112_37 : zD 112 37 (.iload_n 1) 1 38 = true := by decide +kernel
theorem zd112_38 : zD 112 38 .iadd 1 39 = true := by decide +kernel
theorem zd112_39 : zD 112 39 (.aload_n 0) 1 40 = true := by decide +kernel
theorem zd112_40 : zDg 112 40 43 7 17 (.int) = true := by decide +kernel
theorem zd112_43 : zDm 112 43 .gt 68 46 = true := by decide +kernel
theorem zd112_46 : zD 112 46 (.aload_n 0) 1 47 = true := by decide +kernel
theorem zd112_47 : zDg 112 47 50 7 17 (.int) = true := by decide +kernel
theorem zd112_50 : zDc 112 50 51 (Int32.ofNat 5) = true := by decide +kernel
theorem zd112_51 : zD 112 51 (.iload_n 1) 1 52 = true := by decide +kernel
theorem zd112_52 : zD 112 52 .iadd 1 53 = true := by decide +kernel
theorem zd112_53 : zDc 112 53 55 (Int32.ofNat 33) = true := by decide +kernel
theorem zd112_55 : zD 112 55 (.aload_n 0) 1 56 = true := by decide +kernel
theorem zd112_56 : zDg 112 56 59 7 18 (.array .int) = true := by decide +kernel
theorem zd112_59 : zDc 112 59 60 (Int32.ofNat 4) = true := by decide +kernel
theorem zd112_60 : zD 112 60 (.iload_n 1) 1 61 = true := by decide +kernel
theorem zd112_61 : zD 112 61 .iadd 1 62 = true := by decide +kernel
theorem zd112_62 : zD 112 62 .iaload 1 63 = true := by decide +kernel
theorem zd112_63 : zD 112 63 .imul 1 64 = true := by decide +kernel
theorem zd112_64 : zD 112 64 .iadd 1 65 = true := by decide +kernel
theorem zd112_65 : zDm 112 65 .eq 70 68 = true := by decide +kernel
theorem zd112_68 : zDc 112 68 69 (Int32.ofNat 0) = true := by decide +kernel
theorem zd112_69 : zD 112 69 .ireturn 1 70 = true := by decide +kernel
theorem zd112_70 : zD 112 70 (.aload_n 0) 1 71 = true := by decide +kernel
theorem zd112_71 : zDc 112 71 72 (Int32.ofNat 0) = true := by decide +kernel
theorem zd112_72 : zDk 112 72 75 92 0 = true := by decide +kernel
theorem zd112_75 : zD 112 75 (.aload_n 0) 1 76 = true := by decide +kernel
theorem zd112_76 : zD 112 76 (.aload_n 0) 1 77 = true := by decide +kernel
theorem zd112_77 : zDg 112 77 80 7 18 (.array .int) = true := by decide +kernel
theorem zd112_80 : zDc 112 80 81 (Int32.ofNat 1) = true := by decide +kernel
theorem zd112_81 : zD 112 81 .iaload 1 82 = true := by decide +kernel
theorem zd112_82 : zDk 112 82 85 92 0 = true := by decide +kernel
theorem zd112_85 : zD 112 85 (.aload_n 0) 1 86 = true := by decide +kernel
theorem zd112_86 : zD 112 86 (.aload_n 0) 1 87 = true := by decide +kernel
theorem zd112_87 : zDg 112 87 90 7 18 (.array .int) = true := by decide +kernel
theorem zd112_90 : zDc 112 90 91 (Int32.ofNat 2) = true := by decide +kernel
theorem zd112_91 : zD 112 91 .iaload 1 92 = true := by decide +kernel
theorem zd112_92 : zDk 112 92 95 92 0 = true := by decide +kernel
theorem zd112_95 : zDc 112 95 96 (Int32.ofNat 0) = true := by decide +kernel
theorem zd112_96 : zD 112 96 (.istore_n 2) 1 97 = true := by decide +kernel
theorem zd112_97 : zD 112 97 (.iload_n 2) 1 98 = true := by decide +kernel
theorem zd112_98 : zD 112 98 (.iload_n 1) 1 99 = true := by decide +kernel
theorem zd112_99 : zDm 112 99 .ge 120 102 = true := by decide +kernel
theorem zd112_102 : zD 112 102 (.aload_n 0) 1 103 = true := by decide +kernel
theorem zd112_103 : zD 112 103 (.aload_n 0) 1 104 = true := by decide +kernel
theorem zd112_104 : zDg 112 104 107 7 18 (.array .int) = true := by decide +kernel
theorem zd112_107 : zDc 112 107 108 (Int32.ofNat 4) = true := by decide +kernel
theorem zd112_108 : zD 112 108 (.iload_n 2) 1 109 = true := by decide +kernel
theorem zd112_109 : zD 112 109 .iadd 1 110 = true := by decide +kernel
theorem zd112_110 : zD 112 110 .iaload 1 111 = true := by decide +kernel
theorem zd112_111 : zDk 112 111 114 92 0 = true := by decide +kernel
theorem zd112_114 : zDi 112 114 117 2 (Int32.ofNat 1) = true := by decide +kernel
theorem zd112_117 : zDj 112 117 97 = true := by decide +kernel
theorem zd112_120 : zD 112 120 (.aload_n 0) 1 121 = true := by decide +kernel
theorem zd112_121 : zDk 112 121 124 93 0 = true := by decide +kernel
theorem zd112_124 : zDc 112 124 125 (Int32.ofNat 0) = true := by decide +kernel
theorem zd112_125 : zD 112 125 (.istore_n 2) 1 126 = true := by decide +kernel
theorem zd112_126 : zD 112 126 (.iload_n 2) 1 127 = true := by decide +kernel
theorem zd112_127 : zDc 112 127 129 (Int32.ofNat 32) = true := by decide +kernel
theorem zd112_129 : zDm 112 129 .ge 150 132 = true := by decide +kernel
theorem zd112_132 : zD 112 132 (.aload_n 0) 1 133 = true := by decide +kernel
theorem zd112_133 : zDg 112 133 136 7 16 (.array .int) = true := by decide +kernel
theorem zd112_136 : zD 112 136 (.iload_n 2) 1 137 = true := by decide +kernel
theorem zd112_137 : zD 112 137 (.aload_n 0) 1 138 = true := by decide +kernel
theorem zd112_138 : zDg 112 138 141 7 7 (.array .int) = true := by decide +kernel
theorem zd112_141 : zD 112 141 (.iload_n 2) 1 142 = true := by decide +kernel
theorem zd112_142 : zD 112 142 .iaload 1 143 = true := by decide +kernel
theorem zd112_143 : zD 112 143 .iastore 1 144 = true := by decide +kernel
theorem zd112_144 : zDi 112 144 147 2 (Int32.ofNat 1) = true := by decide +kernel
theorem zd112_147 : zDj 112 147 126 = true := by decide +kernel
theorem zd112_150 : zDc 112 150 151 (Int32.ofNat 1) = true := by decide +kernel
theorem zd112_151 : zD 112 151 (.istore_n 2) 1 152 = true := by decide +kernel
theorem zd112_152 : zDc 112 152 153 (Int32.ofNat 5) = true := by decide +kernel
theorem zd112_153 : zD 112 153 (.iload_n 1) 1 154 = true := by decide +kernel
theorem zd112_154 : zD 112 154 .iadd 1 155 = true := by decide +kernel
theorem zd112_155 : zD 112 155 (.istore_n 3) 1 156 = true := by decide +kernel
theorem zd112_156 : zD 112 156 (.iload_n 3) 1 157 = true := by decide +kernel
theorem zd112_157 : zD 112 157 (.aload_n 0) 1 158 = true := by decide +kernel
theorem zd112_158 : zDg 112 158 161 7 17 (.int) = true := by decide +kernel
theorem zd112_161 : zDm 112 161 .ge 278 164 = true := by decide +kernel
theorem zd112_164 : zD 112 164 (.iload_n 2) 1 165 = true := by decide +kernel
theorem zd112_165 : zDf 112 165 .eq 278 168 = true := by decide +kernel
theorem zd112_168 : zD 112 168 (.aload_n 0) 1 169 = true := by decide +kernel
theorem zd112_169 : zDg 112 169 172 7 18 (.array .int) = true := by decide +kernel
theorem zd112_172 : zD 112 172 (.iload_n 3) 1 173 = true := by decide +kernel
theorem zd112_173 : zD 112 173 .iaload 1 174 = true := by decide +kernel
theorem zd112_174 : zDc 112 174 175 (Int32.ofNat 2) = true := by decide +kernel
theorem zd112_175 : zDm 112 175 .ge 182 178 = true := by decide +kernel
theorem zd112_178 : zDc 112 178 179 (Int32.ofNat 1) = true := by decide +kernel
theorem zd112_179 : zDj 112 179 183 = true := by decide +kernel
theorem zd112_182 : zDc 112 182 183 (Int32.ofNat 0) = true := by decide +kernel
theorem zd112_183 : zD 112 183 (.istore_n 2) 1 184 = true := by decide +kernel
theorem zd112_184 : zD 112 184 (.aload_n 0) 1 185 = true := by decide +kernel
theorem zd112_185 : zDc 112 185 186 (Int32.ofNat 1) = true := by decide +kernel
theorem zd112_186 : zDk 112 186 189 92 0 = true := by decide +kernel
theorem zd112_189 : zD 112 189 (.aload_n 0) 1 190 = true := by decide +kernel
theorem zd112_190 : zDg 112 190 193 7 18 (.array .int) = true := by decide +kernel
theorem zd112_193 : zD 112 193 (.iload_n 3) 1 194 = true := by decide +kernel
theorem zd112_194 : zD 112 194 .iaload 1 195 = true := by decide +kernel
theorem zd112_195 : zDf 112 195 .ne 209 198 = true := by decide +kernel
theorem zd112_198 : zD 112 198 (.aload_n 0) 1 199 = true := by decide +kernel
theorem zd112_199 : zD 112 199 (.aload_n 0) 1 200 = true := by decide +kernel
theorem zd112_200 : zDg 112 200 203 7 18 (.array .int) = true := by decide +kernel
theorem zd112_203 : zD 112 203 (.iload_n 3) 1 204 = true := by decide +kernel
theorem zd112_204 : zDc 112 204 205 (Int32.ofNat 1) = true := by decide +kernel
theorem zd112_205 : zD 112 205 .iadd 1 206 = true := by decide +kernel
theorem zd112_206 : zDk 112 206 209 98 0 = true := by decide +kernel
theorem zd112_209 : zD 112 209 (.aload_n 0) 1 210 = true := by decide +kernel
theorem zd112_210 : zD 112 210 (.aload_n 0) 1 211 = true := by decide +kernel
theorem zd112_211 : zDg 112 211 214 7 16 (.array .int) = true := by decide +kernel
theorem zd112_214 : zDc 112 214 215 (Int32.ofNat 0) = true := by decide +kernel
theorem zd112_215 : zDk 112 215 218 98 0 = true := by decide +kernel
theorem zd112_218 : zD 112 218 (.aload_n 0) 1 219 = true := by decide +kernel
theorem zd112_219 : zDg 112 219 222 7 18 (.array .int) = true := by decide +kernel
theorem zd112_222 : zD 112 222 (.iload_n 3) 1 223 = true := by decide +kernel
theorem zd112_223 : zD 112 223 .iaload 1 224 = true := by decide +kernel
theorem zd112_224 : zDf 112 224 .eq 238 227 = true := by decide +kernel
theorem zd112_227 : zD 112 227 (.aload_n 0) 1 228 = true := by decide +kernel
theorem zd112_228 : zD 112 228 (.aload_n 0) 1 229 = true := by decide +kernel
theorem zd112_229 : zDg 112 229 232 7 18 (.array .int) = true := by decide +kernel
theorem zd112_232 : zD 112 232 (.iload_n 3) 1 233 = true := by decide +kernel
theorem zd112_233 : zDc 112 233 234 (Int32.ofNat 1) = true := by decide +kernel
theorem zd112_234 : zD 112 234 .iadd 1 235 = true := by decide +kernel
theorem zd112_235 : zDk 112 235 238 98 0 = true := by decide +kernel
theorem zd112_238 : zD 112 238 (.aload_n 0) 1 239 = true := by decide +kernel
theorem zd112_239 : zDk 112 239 242 93 0 = true := by decide +kernel
theorem zd112_242 : zDc 112 242 243 (Int32.ofNat 0) = true := by decide +kernel
theorem zd112_243 : zD 112 243 (.istore 4) 2 245 = true := by decide +kernel
theorem zd112_245 : zD 112 245 (.iload 4) 2 247 = true := by decide +kernel
theorem zd112_247 : zDc 112 247 249 (Int32.ofNat 32) = true := by decide +kernel
theorem zd112_249 : zDm 112 249 .ge 272 252 = true := by decide +kernel
theorem zd112_252 : zD 112 252 (.aload_n 0) 1 253 = true := by decide +kernel
theorem zd112_253 : zDg 112 253 256 7 16 (.array .int) = true := by decide +kernel
theorem zd112_256 : zD 112 256 (.iload 4) 2 258 = true := by decide +kernel
theorem zd112_258 : zD 112 258 (.aload_n 0) 1 259 = true := by decide +kernel
theorem zd112_259 : zDg 112 259 262 7 7 (.array .int) = true := by decide +kernel
theorem zd112_262 : zD 112 262 (.iload 4) 2 264 = true := by decide +kernel
theorem zd112_264 : zD 112 264 .iaload 1 265 = true := by decide +kernel
theorem zd112_265 : zD 112 265 .iastore 1 266 = true := by decide +kernel
theorem zd112_266 : zDi 112 266 269 4 (Int32.ofNat 1) = true := by decide +kernel
theorem zd112_269 : zDj 112 269 245 = true := by decide +kernel
theorem zd112_272 : zDi 112 272 275 3 (Int32.ofNat 33) = true := by decide +kernel
theorem zd112_275 : zDj 112 275 156 = true := by decide +kernel
theorem zd112_278 : zDc 112 278 279 (Int32.ofNat 0) = true := by decide +kernel
theorem zd112_279 : zD 112 279 (.istore_n 3) 1 280 = true := by decide +kernel
theorem zd112_280 : zD 112 280 (.iload_n 3) 1 281 = true := by decide +kernel
theorem zd112_281 : zDc 112 281 283 (Int32.ofNat 32) = true := by decide +kernel
theorem zd112_283 : zDm 112 283 .ge 327 286 = true := by decide +kernel
theorem zd112_286 : zD 112 286 (.iload_n 2) 1 287 = true := by decide +kernel
theorem zd112_287 : zDf 112 287 .eq 319 290 = true := by decide +kernel
theorem zd112_290 : zD 112 290 (.aload_n 0) 1 291 = true := by decide +kernel
theorem zd112_291 : zDg 112 291 294 7 16 (.array .int) = true := by decide +kernel
theorem zd112_294 : zD 112 294 (.iload_n 3) 1 295 = true := by decide +kernel
theorem zd112_295 : zD 112 295 .iaload 1 296 = true := by decide +kernel
theorem zd112_296 : zD 112 296 (.aload_n 0) 1 297 = true := by decide +kernel
theorem zd112_297 : zDg 112 297 300 7 14 (.array .int) = true := by decide +kernel
theorem zd112_300 : zDc 112 300 302 (Int32.ofNat 32) = true := by decide +kernel
theorem zd112_302 : zD 112 302 (.aload_n 0) 1 303 = true := by decide +kernel
theorem zd112_303 : zDg 112 303 306 7 18 (.array .int) = true := by decide +kernel
theorem zd112_306 : zDc 112 306 307 (Int32.ofNat 0) = true := by decide +kernel
theorem zd112_307 : zD 112 307 .iaload 1 308 = true := by decide +kernel
theorem zd112_308 : zD 112 308 .imul 1 309 = true := by decide +kernel
theorem zd112_309 : zD 112 309 (.iload_n 3) 1 310 = true := by decide +kernel
theorem zd112_310 : zD 112 310 .iadd 1 311 = true := by decide +kernel
theorem zd112_311 : zD 112 311 .iaload 1 312 = true := by decide +kernel
theorem zd112_312 : zDm 112 312 .ne 319 315 = true := by decide +kernel
theorem zd112_315 : zDc 112 315 316 (Int32.ofNat 1) = true := by decide +kernel
theorem zd112_316 : zDj 112 316 320 = true := by decide +kernel
theorem zd112_319 : zDc 112 319 320 (Int32.ofNat 0) = true := by decide +kernel
theorem zd112_320 : zD 112 320 (.istore_n 2) 1 321 = true := by decide +kernel
theorem zd112_321 : zDi 112 321 324 3 (Int32.ofNat 1) = true := by decide +kernel
theorem zd112_324 : zDj 112 324 280 = true := by decide +kernel
theorem zd112_327 : zD 112 327 (.iload_n 2) 1 328 = true := by decide +kernel
theorem zd112_328 : zD 112 328 .ireturn 1 329 = true := by decide +kernel
theorem zd113_0 : zD 113 0 (.aload_n 0) 1 1 = true := by decide +kernel
theorem zd113_1 : zD 113 1 (.aload_n 0) 1 2 = true := by decide +kernel
theorem zd113_2 : zD 113 2 (.iload_n 1) 1 3 = true := by decide +kernel
theorem zd113_3 : zDk 113 3 6 101 0 = true := by decide +kernel
theorem zd113_6 : zDf 113 6 .ne 13 9 = true := by decide +kernel
theorem zd113_9 : zDc 113 9 10 (Int32.ofNat 1) = true := by decide +kernel
theorem zd113_10 : zDj 113 10 37 = true := by decide +kernel
theorem zd113_13 : zD 113 13 (.iload_n 2) 1 14 = true := by decide +kernel
theorem zd113_14 : zDf 113 14 .lt 36 17 = true := by decide +kernel
theorem zd113_17 : zD 113 17 (.iload_n 2) 1 18 = true := by decide +kernel
theorem zd113_18 : zDc 113 18 20 (Int32.ofNat 16) = true := by decide +kernel
theorem zd113_20 : zDm 113 20 .ge 36 23 = true := by decide +kernel
theorem zd113_23 : zD 113 23 (.iload_n 3) 1 24 = true := by decide +kernel
theorem zd113_24 : zDf 113 24 .lt 36 27 = true := by decide +kernel
theorem zd113_27 : zD 113 27 (.iload_n 3) 1 28 = true := by decide +kernel
theorem zd113_28 : zDc 113 28 29 (Int32.ofNat 4) = true := by decide +kernel
theorem zd113_29 : zDm 113 29 .ge 36 32 = true := by decide +kernel
theorem zd113_32 : zDc 113 32 33 (Int32.ofNat 0) = true := by decide +kernel
theorem zd113_33 : zDj 113 33 37 = true := by decide +kernel
theorem zd113_36 : zDc 113 36 37 (Int32.ofNat 2) = true := by decide +kernel
theorem zd113_37 : zDp 113 37 40 7 0 (.int) = true := by decide +kernel
theorem zd113_40 : zD 113 40 (.aload_n 0) 1 41 = true := by decide +kernel
theorem zd113_41 : zDg 113 41 44 7 0 (.int) = true := by decide +kernel
theorem zd113_44 : zDf 113 44 .eq 49 47 = true := by decide +kernel
theorem zd113_47 : zDc 113 47 48 (Int32.ofNat 0) = true := by decide +kernel
theorem zd113_48 : zD 113 48 .ireturn 1 49 = true := by decide +kernel
theorem zd113_49 : zD 113 49 (.aload_n 0) 1 50 = true := by decide +kernel
theorem zd113_50 : zDg 113 50 53 7 19 (.array .int) = true := by decide +kernel
theorem zd113_53 : zDc 113 53 55 (Int32.ofNat 16) = true := by decide +kernel
theorem zd113_55 : zD 113 55 (.iload_n 1) 1 56 = true := by decide +kernel
theorem zd113_56 : zD 113 56 .imul 1 57 = true := by decide +kernel
theorem zd113_57 : zD 113 57 (.iload_n 2) 1 58 = true := by decide +kernel
theorem zd113_58 : zD 113 58 .iadd 1 59 = true := by decide +kernel
theorem zd113_59 : zDc 113 59 60 (Int32.ofNat 1) = true := by decide +kernel
theorem zd113_60 : zD 113 60 (.iload_n 3) 1 61 = true := by decide +kernel
theorem zd113_61 : zD 113 61 .iadd 1 62 = true := by decide +kernel
theorem zd113_62 : zD 113 62 .iastore 1 63 = true := by decide +kernel
theorem zd113_63 : zD 113 63 (.aload_n 0) 1 64 = true := by decide +kernel
theorem zd113_64 : zD 113 64 (.iload_n 1) 1 65 = true := by decide +kernel
theorem zd113_65 : zDc 113 65 66 (Int32.ofNat 0) = true := by decide +kernel
theorem zd113_66 : zD 113 66 (.iload_n 2) 1 67 = true := by decide +kernel
theorem zd113_67 : zD 113 67 (.iload_n 3) 1 68 = true := by decide +kernel
theorem zd113_68 : zDk 113 68 71 114 0 = true := by decide +kernel
theorem zd113_71 : zD 113 71 (.aload_n 0) 1 72 = true := by decide +kernel
theorem zd113_72 : zD 113 72 (.iload_n 1) 1 73 = true := by decide +kernel
theorem zd113_73 : zDk 113 73 76 115 0 = true := by decide +kernel
theorem zd113_76 : zDf 113 76 .eq 83 79 = true := by decide +kernel
theorem zd113_79 : zDc 113 79 80 (Int32.ofNat 1) = true := by decide +kernel
theorem zd113_80 : zDj 113 80 84 = true := by decide +kernel
theorem zd113_83 : zDc 113 83 84 (Int32.ofNat 0) = true := by decide +kernel
theorem zd113_84 : zD 113 84 .ireturn 1 85 = true := by decide +kernel
theorem zd114_0 : zD 114 0 (.aload_n 0) 1 1 = true := by decide +kernel
theorem zd114_1 : zDg 114 1 4 7 24 (.int) = true := by decide +kernel
theorem zd114_4 : zDc 114 4 6 (Int32.ofNat 100) = true := by decide +kernel
theorem zd114_6 : zDm 114 6 .ne 10 9 = true := by decide +kernel
theorem zd114_9 : zD 114 9 .return_ 1 10 = true := by decide +kernel
theorem zd114_10 : zD 114 10 (.aload_n 0) 1 11 = true := by decide +kernel
theorem zd114_11 : zDg 114 11 14 7 25 (.array .int) = true := by decide +kernel
theorem zd114_14 : zD 114 14 (.aload_n 0) 1 15 = true := by decide +kernel
theorem zd114_15 : zDg 114 15 18 7 24 (.int) = true := by decide +kernel
theorem zd114_18 : zD 114 18 (.iload_n 1) 1 19 = true := by decide +kernel
theorem zd114_19 : zD 114 19 .iastore 1 20 = true := by decide +kernel
theorem zd114_20 : zD 114 20 (.aload_n 0) 1 21 = true := by decide +kernel
theorem zd114_21 : zDg 114 21 24 7 26 (.array .int) = true := by decide +kernel
theorem zd114_24 : zD 114 24 (.aload_n 0) 1 25 = true := by decide +kernel
theorem zd114_25 : zDg 114 25 28 7 24 (.int) = true := by decide +kernel
theorem zd114_28 : zD 114 28 (.iload_n 2) 1 29 = true := by decide +kernel
theorem zd114_29 : zD 114 29 .iastore 1 30 = true := by decide +kernel
theorem zd114_30 : zD 114 30 (.aload_n 0) 1 31 = true := by decide +kernel
theorem zd114_31 : zDg 114 31 34 7 27 (.array .int) = true := by decide +kernel
theorem zd114_34 : zD 114 34 (.aload_n 0) 1 35 = true := by decide +kernel
theorem zd114_35 : zDg 114 35 38 7 24 (.int) = true := by decide +kernel
theorem zd114_38 : zD 114 38 (.iload_n 3) 1 39 = true := by decide +kernel
theorem zd114_39 : zD 114 39 .iastore 1 40 = true := by decide +kernel
theorem zd114_40 : zD 114 40 (.aload_n 0) 1 41 = true := by decide +kernel
theorem zd114_41 : zDg 114 41 44 7 28 (.array .int) = true := by decide +kernel
theorem zd114_44 : zD 114 44 (.aload_n 0) 1 45 = true := by decide +kernel
theorem zd114_45 : zDg 114 45 48 7 24 (.int) = true := by decide +kernel
theorem zd114_48 : zD 114 48 (.iload 4) 2 50 = true := by decide +kernel
theorem zd114_50 : zD 114 50 .iastore 1 51 = true := by decide +kernel
theorem zd114_51 : zD 114 51 (.aload_n 0) 1 52 = true := by decide +kernel
theorem zd114_52 : zD 114 52 .dup 1 53 = true := by decide +kernel
theorem zd114_53 : zDg 114 53 56 7 24 (.int) = true := by decide +kernel
theorem zd114_56 : zDc 114 56 57 (Int32.ofNat 1) = true := by decide +kernel
theorem zd114_57 : zD 114 57 .iadd 1 58 = true := by decide +kernel
theorem zd114_58 : zDp 114 58 61 7 24 (.int) = true := by decide +kernel
theorem zd114_61 : zD 114 61 .return_ 1 62 = true := by decide +kernel
theorem zd115_0 : zDc 115 0 1 (Int32.ofNat 0) = true := by decide +kernel
theorem zd115_1 : zD 115 1 (.istore_n 2) 1 2 = true := by decide +kernel
theorem zd115_2 : zDc 115 2 3 (Int32.ofNat 0) = true := by decide +kernel
theorem zd115_3 : zD 115 3 (.istore_n 3) 1 4 = true := by decide +kernel
theorem zd115_4 : zD 115 4 (.iload_n 3) 1 5 = true := by decide +kernel
theorem zd115_5 : zDc 115 5 7 (Int32.ofNat 16) = true := by decide +kernel
theorem zd115_7 : zDm 115 7 .ge 50 10 = true := by decide +kernel
theorem zd115_10 : zD 115 10 (.aload_n 0) 1 11 = true := by decide +kernel
theorem zd115_11 : zDg 115 11 14 7 19 (.array .int) = true := by decide +kernel
theorem zd115_14 : zDc 115 14 16 (Int32.ofNat 16) = true := by decide +kernel
theorem zd115_16 : zD 115 16 (.iload_n 1) 1 17 = true := by decide +kernel
theorem zd115_17 : zD 115 17 .imul 1 18 = true := by decide +kernel
theorem zd115_18 : zD 115 18 (.iload_n 3) 1 19 = true := by decide +kernel
theorem zd115_19 : zD 115 19 .iadd 1 20 = true := by decide +kernel
theorem zd115_20 : zD 115 20 .iaload 1 21 = true := by decide +kernel
theorem zd115_21 : zDf 115 21 .le 42 24 = true := by decide +kernel
theorem zd115_24 : zD 115 24 (.iload_n 2) 1 25 = true := by decide +kernel
theorem zd115_25 : zDc 115 25 26 (Int32.ofNat 1) = true := by decide +kernel
theorem zd115_26 : zD 115 26 (.aload_n 0) 1 27 = true := by decide +kernel
theorem zd115_27 : zDg 115 27 30 7 19 (.array .int) = true := by decide +kernel
theorem zd115_30 : zDc 115 30 32 (Int32.ofNat 16) = true := by decide +kernel
theorem zd115_32 : zD 115 32 (.iload_n 1) 1 33 = true := by decide +kernel
theorem zd115_33 : zD 115 33 .imul 1 34 = true := by decide +kernel
theorem zd115_34 : zD 115 34 (.iload_n 3) 1 35 = true := by decide +kernel
theorem zd115_35 : zD 115 35 .iadd 1 36 = true := by decide +kernel
theorem zd115_36 : zD 115 36 .iaload 1 37 = true := by decide +kernel
theorem zd115_37 : zD 115 37 .ishl 1 38 = true := by decide +kernel
theorem zd115_38 : zD 115 38 .ior 1 39 = true := by decide +kernel
theorem zd115_39 : zDj 115 39 43 = true := by decide +kernel
theorem zd115_42 : zD 115 42 (.iload_n 2) 1 43 = true := by decide +kernel
theorem zd115_43 : zD 115 43 (.istore_n 2) 1 44 = true := by decide +kernel
theorem zd115_44 : zDi 115 44 47 3 (Int32.ofNat 1) = true := by decide +kernel
theorem zd115_47 : zDj 115 47 4 = true := by decide +kernel
theorem zd115_50 : zD 115 50 (.iload_n 2) 1 51 = true := by decide +kernel
theorem zd115_51 : zD 115 51 (.iload_n 2) 1 52 = true := by decide +kernel
theorem zd115_52 : zDc 115 52 53 (Int32.ofNat 1) = true := by decide +kernel
theorem zd115_53 : zD 115 53 .isub 1 54 = true := by decide +kernel
theorem zd115_54 : zD 115 54 .iand 1 55 = true := by decide +kernel
theorem zd115_55 : zDf 115 55 .eq 62 58 = true := by decide +kernel
theorem zd115_58 : zDc 115 58 59 (Int32.ofNat 1) = true := by decide +kernel
theorem zd115_59 : zDj 115 59 63 = true := by decide +kernel
theorem zd115_62 : zDc 115 62 63 (Int32.ofNat 0) = true := by decide +kernel
theorem zd115_63 : zD 115 63 .ireturn 1 64 = true := by decide +kernel
theorem zd116_0 : zD 116 0 (.aload_n 0) 1 1 = true := by decide +kernel
theorem zd116_1 : zD 116 1 (.aload_n 0) 1 2 = true := by decide +kernel
theorem zd116_2 : zD 116 2 (.iload_n 1) 1 3 = true := by decide +kernel
theorem zd116_3 : zDk 116 3 6 101 0 = true := by decide +kernel
theorem zd116_6 : zDf 116 6 .eq 13 9 = true := by decide +kernel
theorem zd116_9 : zDc 116 9 10 (Int32.ofNat 0) = true := by decide +kernel
theorem zd116_10 : zDj 116 10 14 = true := by decide +kernel
theorem zd116_13 : zDc 116 13 14 (Int32.ofNat 1) = true := by decide +kernel
theorem zd116_14 : zDp 116 14 17 7 0 (.int) = true := by decide +kernel
theorem zd116_17 : zD 116 17 (.aload_n 0) 1 18 = true := by decide +kernel
theorem zd116_18 : zDg 116 18 21 7 0 (.int) = true := by decide +kernel
theorem zd116_21 : zDf 116 21 .eq 26 24 = true := by decide +kernel
theorem zd116_24 : zDc 116 24 25 (Int32.ofNat 0) = true := by decide +kernel
theorem zd116_25 : zD 116 25 .ireturn 1 26 = true := by decide +kernel
theorem zd116_26 : zD 116 26 (.aload_n 0) 1 27 = true := by decide +kernel
theorem zd116_27 : zDg 116 27 30 7 20 (.array .boolean) = true := by decide +kernel
theorem zd116_30 : zD 116 30 (.iload_n 1) 1 31 = true := by decide +kernel
theorem zd116_31 : zD 116 31 .baload 1 32 = true := by decide +kernel
theorem zd116_32 : zDf 116 32 .eq 37 35 = true := by decide +kernel
theorem zd116_35 : zDc 116 35 36 (-1) = true := by decide +kernel
theorem zd116_36 : zD 116 36 .ireturn 1 37 = true := by decide +kernel
theorem zd116_37 : zD 116 37 (.aload_n 0) 1 38 = true := by decide +kernel
theorem zd116_38 : zDg 116 38 41 7 20 (.array .boolean) = true := by decide +kernel
theorem zd116_41 : zD 116 41 (.iload_n 1) 1 42 = true := by decide +kernel
theorem zd116_42 : zDc 116 42 43 (Int32.ofNat 1) = true := by decide +kernel
theorem zd116_43 : zD 116 43 .bastore 1 44 = true := by decide +kernel
theorem zd116_44 : zD 116 44 (.aload_n 0) 1 45 = true := by decide +kernel
theorem zd116_45 : zD 116 45 .dup 1 46 = true := by decide +kernel
theorem zd116_46 : zDg 116 46 49 7 21 (.int) = true := by decide +kernel
theorem zd116_49 : zDc 116 49 50 (Int32.ofNat 1) = true := by decide +kernel
theorem zd116_50 : zD 116 50 .iadd 1 51 = true := by decide +kernel
theorem zd116_51 : zDp 116 51 54 7 21 (.int) = true := by decide +kernel
theorem zd116_54 : zD 116 54 (.aload_n 0) 1 55 = true := by decide +kernel
theorem zd116_55 : zD 116 55 (.iload_n 1) 1 56 = true := by decide +kernel
theorem zd116_56 : zDc 116 56 57 (Int32.ofNat 2) = true := by decide +kernel
theorem zd116_57 : zDc 116 57 58 (-1) = true := by decide +kernel
theorem zd116_58 : zDc 116 58 59 (-1) = true := by decide +kernel
theorem zd116_59 : zDk 116 59 62 114 0 = true := by decide +kernel
theorem zd116_62 : zD 116 62 (.aload_n 0) 1 63 = true := by decide +kernel
theorem zd116_63 : zDg 116 63 66 7 21 (.int) = true := by decide +kernel
theorem zd116_66 : zD 116 66 .ireturn 1 67 = true := by decide +kernel
theorem zd117_0 : zD 117 0 (.aload_n 0) 1 1 = true := by decide +kernel
theorem zd117_1 : zD 117 1 (.aload_n 0) 1 2 = true := by decide +kernel
theorem zd117_2 : zD 117 2 (.iload_n 1) 1 3 = true := by decide +kernel
theorem zd117_3 : zDk 117 3 6 101 0 = true := by decide +kernel
theorem zd117_6 : zDf 117 6 .eq 13 9 = true := by decide +kernel
theorem zd117_9 : zDc 117 9 10 (Int32.ofNat 0) = true := by decide +kernel
theorem zd117_10 : zDj 117 10 14 = true := by decide +kernel
theorem zd117_13 : zDc 117 13 14 (Int32.ofNat 1) = true := by decide +kernel
theorem zd117_14 : zDp 117 14 17 7 0 (.int) = true := by decide +kernel
theorem zd117_17 : zD 117 17 (.aload_n 0) 1 18 = true := by decide +kernel
theorem zd117_18 : zDg 117 18 21 7 0 (.int) = true := by decide +kernel
theorem zd117_21 : zDf 117 21 .eq 26 24 = true := by decide +kernel
theorem zd117_24 : zDc 117 24 25 (Int32.ofNat 0) = true := by decide +kernel
theorem zd117_25 : zD 117 25 .ireturn 1 26 = true := by decide +kernel
theorem zd117_26 : zD 117 26 (.aload_n 0) 1 27 = true := by decide +kernel
theorem zd117_27 : zDg 117 27 30 7 20 (.array .boolean) = true := by decide +kernel
theorem zd117_30 : zD 117 30 (.iload_n 1) 1 31 = true := by decide +kernel
theorem zd117_31 : zD 117 31 .baload 1 32 = true := by decide +kernel
theorem zd117_32 : zDf 117 32 .ne 52 35 = true := by decide +kernel
theorem zd117_35 : zD 117 35 (.aload_n 0) 1 36 = true := by decide +kernel
theorem zd117_36 : zD 117 36 (.iload_n 1) 1 37 = true := by decide +kernel
theorem zd117_37 : zDk 117 37 40 115 0 = true := by decide +kernel
theorem zd117_40 : zDf 117 40 .eq 52 43 = true := by decide +kernel
theorem zd117_43 : zD 117 43 (.aload_n 0) 1 44 = true := by decide +kernel
theorem zd117_44 : zDg 117 44 47 7 22 (.int) = true := by decide +kernel
theorem zd117_47 : zDc 117 47 49 (Int32.ofNat 60) = true := by decide +kernel
theorem zd117_49 : zDm 117 49 .ne 54 52 = true := by decide +kernel
theorem zd117_52 : zDc 117 52 53 (-1) = true := by decide +kernel
theorem zd117_53 : zD 117 53 .ireturn 1 54 = true := by decide +kernel
theorem zd117_54 : zD 117 54 (.aload_n 0) 1 55 = true := by decide +kernel
theorem zd117_55 : zDg 117 55 58 7 23 (.array .int) = true := by decide +kernel
theorem zd117_58 : zD 117 58 (.aload_n 0) 1 59 = true := by decide +kernel
theorem zd117_59 : zDg 117 59 62 7 22 (.int) = true := by decide +kernel
theorem zd117_62 : zD 117 62 (.iload_n 1) 1 63 = true := by decide +kernel
theorem zd117_63 : zD 117 63 .iastore 1 64 = true := by decide +kernel
theorem zd117_64 : zD 117 64 (.aload_n 0) 1 65 = true := by decide +kernel
theorem zd117_65 : zD 117 65 (.iload_n 1) 1 66 = true := by decide +kernel
theorem zd117_66 : zDc 117 66 67 (Int32.ofNat 1) = true := by decide +kernel
theorem zd117_67 : zD 117 67 (.aload_n 0) 1 68 = true := by decide +kernel
theorem zd117_68 : zDg 117 68 71 7 22 (.int) = true := by decide +kernel
theorem zd117_71 : zDc 117 71 72 (-1) = true := by decide +kernel
theorem zd117_72 : zDk 117 72 75 114 0 = true := by decide +kernel
theorem zd117_75 : zD 117 75 (.aload_n 0) 1 76 = true := by decide +kernel
theorem zd117_76 : zD 117 76 .dup 1 77 = true := by decide +kernel
theorem zd117_77 : zDg 117 77 80 7 22 (.int) = true := by decide +kernel
theorem zd117_80 : zDc 117 80 81 (Int32.ofNat 1) = true := by decide +kernel
theorem zd117_81 : zD 117 81 .iadd 1 82 = true := by decide +kernel
theorem zd117_82 : zDp 117 82 85 7 22 (.int) = true := by decide +kernel
theorem zd117_85 : zD 117 85 (.aload_n 0) 1 86 = true := by decide +kernel
theorem zd117_86 : zDg 117 86 89 7 22 (.int) = true := by decide +kernel
theorem zd117_89 : zDc 117 89 90 (Int32.ofNat 1) = true := by decide +kernel
theorem zd117_90 : zD 117 90 .isub 1 91 = true := by decide +kernel
theorem zd117_91 : zD 117 91 .ireturn 1 92 = true := by decide +kernel
theorem zd118_0 : zD 118 0 (.aload_n 0) 1 1 = true := by decide +kernel
theorem zd118_1 : zD 118 1 (.iload_n 1) 1 2 = true := by decide +kernel
theorem zd118_2 : zDf 118 2 .lt 26 5 = true := by decide +kernel
theorem zd118_5 : zD 118 5 (.iload_n 1) 1 6 = true := by decide +kernel
theorem zd118_6 : zD 118 6 (.aload_n 0) 1 7 = true := by decide +kernel
theorem zd118_7 : zDg 118 7 10 7 22 (.int) = true := by decide +kernel
theorem zd118_10 : zDm 118 10 .ge 26 13 = true := by decide +kernel
theorem zd118_13 : zD 118 13 (.iload_n 3) 1 14 = true := by decide +kernel
theorem zd118_14 : zDf 118 14 .lt 26 17 = true := by decide +kernel
theorem zd118_17 : zD 118 17 (.iload_n 3) 1 18 = true := by decide +kernel
theorem zd118_18 : zDc 118 18 19 (Int32.ofNat 3) = true := by decide +kernel
theorem zd118_19 : zDm 118 19 .ge 26 22 = true := by decide +kernel
theorem zd118_22 : zDc 118 22 23 (Int32.ofNat 0) = true := by decide +kernel
theorem zd118_23 : zDj 118 23 27 = true := by decide +kernel
theorem zd118_26 : zDc 118 26 27 (Int32.ofNat 1) = true := by decide +kernel
theorem zd118_27 : zDp 118 27 30 7 0 (.int) = true := by decide +kernel
theorem zd118_30 : zD 118 30 (.aload_n 0) 1 31 = true := by decide +kernel
theorem zd118_31 : zDg 118 31 34 7 0 (.int) = true := by decide +kernel
theorem zd118_34 : zDf 118 34 .eq 39 37 = true := by decide +kernel
theorem zd118_37 : zDc 118 37 38 (Int32.ofNat 0) = true := by decide +kernel
theorem zd118_38 : zD 118 38 .ireturn 1 39 = true := by decide +kernel
theorem zd118_39 : zD 118 39 (.iload_n 2) 1 40 = true := by decide +kernel
theorem zd118_40 : zD 118 40 (.istore 4) 2 42 = true := by decide +kernel
theorem zd118_42 : zDc 118 42 43 (Int32.ofNat 0) = true := by decide +kernel
theorem zd118_43 : zD 118 43 (.istore 5) 2 45 = true := by decide +kernel
theorem zd118_45 : zD 118 45 (.iload 5) 2 47 = true := by decide +kernel
theorem zd118_47 : zD 118 47 (.aload_n 0) 1 48 = true := by decide +kernel
theorem zd118_48 : zDg 118 48 51 7 24 (.int) = true := by decide +kernel
theorem zd118_51 : zDm 118 51 .ge 128 54 = true := by decide +kernel
theorem zd118_54 : zD 118 54 (.iload_n 2) 1 55 = true := by decide +kernel
theorem zd118_55 : zDf 118 55 .lt 128 58 = true := by decide +kernel
theorem zd118_58 : zD 118 58 (.aload_n 0) 1 59 = true := by decide +kernel
theorem zd118_59 : zDg 118 59 62 7 25 (.array .int) = true := by decide +kernel
theorem zd118_62 : zD 118 62 (.iload 5) 2 64 = true := by decide +kernel
theorem zd118_64 : zD 118 64 .iaload 1 65 = true := by decide +kernel
theorem zd118_65 : zD 118 65 (.aload_n 0) 1 66 = true := by decide +kernel
theorem zd118_66 : zDg 118 66 69 7 23 (.array .int) = true := by decide +kernel
theorem zd118_69 : zD 118 69 (.iload_n 1) 1 70 = true := by decide +kernel
theorem zd118_70 : zD 118 70 .iaload 1 71 = true := by decide +kernel
theorem zd118_71 : zDm 118 71 .eq 77 74 = true := by decide +kernel
theorem zd118_74 : zDj 118 74 122 = true := by decide +kernel
theorem zd118_77 : zD 118 77 (.iload 4) 2 79 = true := by decide +kernel
theorem zd118_79 : zDf 118 79 .ne 119 82 = true := by decide +kernel
theorem zd118_82 : zD 118 82 (.iload_n 3) 1 83 = true := by decide +kernel
theorem zd118_83 : zDf 118 83 .ne 96 86 = true := by decide +kernel
theorem zd118_86 : zD 118 86 (.aload_n 0) 1 87 = true := by decide +kernel
theorem zd118_87 : zDg 118 87 90 7 26 (.array .int) = true := by decide +kernel
theorem zd118_90 : zD 118 90 (.iload 5) 2 92 = true := by decide +kernel
theorem zd118_92 : zD 118 92 .iaload 1 93 = true := by decide +kernel
theorem zd118_93 : zDj 118 93 118 = true := by decide +kernel
theorem zd118_96 : zD 118 96 (.iload_n 3) 1 97 = true := by decide +kernel
theorem zd118_97 : zDc 118 97 98 (Int32.ofNat 1) = true := by decide +kernel
theorem zd118_98 : zDm 118 98 .ne 111 101 = true := by decide +kernel
theorem zd118_101 : zD 118 101 (.aload_n 0) 1 102 = true := by decide +kernel
theorem zd118_102 : zDg 118 102 105 7 27 (.array .int) = true := by decide +kernel
theorem zd118_105 : zD 118 105 (.iload 5) 2 107 = true := by decide +kernel
theorem zd118_107 : zD 118 107 .iaload 1 108 = true := by decide +kernel
theorem zd118_108 : zDj 118 108 118 = true := by decide +kernel
theorem zd118_111 : zD 118 111 (.aload_n 0) 1 112 = true := by decide +kernel
theorem zd118_112 : zDg 118 112 115 7 28 (.array .int) = true := by decide +kernel
theorem zd118_115 : zD 118 115 (.iload 5) 2 117 = true := by decide +kernel
theorem zd118_117 : zD 118 117 .iaload 1 118 = true := by decide +kernel
theorem zd118_118 : zD 118 118 .ireturn 1 119 = true := by decide +kernel
theorem zd118_119 : zDi 118 119 122 4 (-(Int32.ofNat 1)) = true := by decide +kernel
theorem zd118_122 : zDi 118 122 125 5 (Int32.ofNat 1) = true := by decide +kernel
theorem zd118_125 : zDj 118 125 45 = true := by decide +kernel
theorem zd118_128 : zDc 118 128 129 (-1) = true := by decide +kernel
theorem zd118_129 : zD 118 129 .ireturn 1 130 = true := by decide +kernel
theorem zd119_0 : zD 119 0 (.aload_n 0) 1 1 = true := by decide +kernel
theorem zd119_1 : zD 119 1 (.iload_n 1) 1 2 = true := by decide +kernel
theorem zd119_2 : zDf 119 2 .lt 26 5 = true := by decide +kernel
theorem zd119_5 : zD 119 5 (.iload_n 1) 1 6 = true := by decide +kernel
theorem zd119_6 : zD 119 6 (.iload_n 2) 1 7 = true := by decide +kernel
theorem zd119_7 : zDm 119 7 .gt 26 10 = true := by decide +kernel
theorem zd119_10 : zD 119 10 (.iload_n 2) 1 11 = true := by decide +kernel
theorem zd119_11 : zD 119 11 (.aload_n 0) 1 12 = true := by decide +kernel
theorem zd119_12 : zDg 119 12 15 7 8 (.int) = true := by decide +kernel
theorem zd119_15 : zDm 119 15 .gt 26 18 = true := by decide +kernel
theorem zd119_18 : zD 119 18 (.iload_n 3) 1 19 = true := by decide +kernel
theorem zd119_19 : zDf 119 19 .lt 26 22 = true := by decide +kernel
theorem zd119_22 : zDc 119 22 23 (Int32.ofNat 0) = true := by decide +kernel
theorem zd119_23 : zDj 119 23 27 = true := by decide +kernel
theorem zd119_26 : zDc 119 26 27 (Int32.ofNat 1) = true := by decide +kernel
theorem zd119_27 : zDp 119 27 30 7 0 (.int) = true := by decide +kernel
theorem zd119_30 : zD 119 30 (.aload_n 0) 1 31 = true := by decide +kernel
theorem zd119_31 : zDg 119 31 34 7 0 (.int) = true := by decide +kernel
theorem zd119_34 : zDf 119 34 .eq 39 37 = true := by decide +kernel
theorem zd119_37 : zDc 119 37 38 (Int32.ofNat 0) = true := by decide +kernel
theorem zd119_38 : zD 119 38 .ireturn 1 39 = true := by decide +kernel
theorem zd119_39 : zD 119 39 (.aload_n 0) 1 40 = true := by decide +kernel
theorem zd119_40 : zD 119 40 (.iload_n 3) 1 41 = true := by decide +kernel
theorem zd119_41 : zDk 119 41 44 105 0 = true := by decide +kernel
theorem zd119_44 : zD 119 44 (.aload_n 0) 1 45 = true := by decide +kernel
theorem zd119_45 : zD 119 45 (.iload_n 1) 1 46 = true := by decide +kernel
theorem zd119_46 : zDk 119 46 49 120 0 = true := by decide +kernel
theorem zd119_49 : zDc 119 49 50 (Int32.ofNat 0) = true := by decide +kernel
theorem zd119_50 : zD 119 50 (.istore 4) 2 52 = true := by decide +kernel
theorem zd119_52 : zD 119 52 (.iload 4) 2 54 = true := by decide +kernel
theorem zd119_54 : zDc 119 54 56 (Int32.ofNat 32) = true := by decide +kernel
theorem zd119_56 : zDm 119 56 .ge 76 59 = true := by decide +kernel
theorem zd119_59 : zD 119 59 (.aload_n 0) 1 60 = true := by decide +kernel
theorem zd119_60 : zD 119 60 (.aload_n 0) 1 61 = true := by decide +kernel
theorem zd119_61 : zDg 119 61 64 7 7 (.array .int) = true := by decide +kernel
theorem zd119_64 : zD 119 64 (.iload 4) 2 66 = true := by decide +kernel
theorem zd119_66 : zD 119 66 .iaload 1 67 = true := by decide +kernel
theorem zd119_67 : zDk 119 67 70 107 0 = true := by decide +kernel
theorem zd119_70 : zDi 119 70 73 4 (Int32.ofNat 1) = true := by decide +kernel
theorem zd119_73 : zDj 119 73 52 = true := by decide +kernel
theorem zd119_76 : zDc 119 76 78 (Int32.ofNat 32) = true := by decide +kernel
theorem zd119_78 : zD 119 78 (.iload_n 1) 1 79 = true := by decide +kernel
theorem zd119_79 : zD 119 79 .imul 1 80 = true := by decide +kernel
theorem zd119_80 : zD 119 80 (.istore 4) 2 82 = true := by decide +kernel
theorem zd119_82 : zD 119 82 (.iload 4) 2 84 = true := by decide +kernel
theorem zd119_84 : zDc 119 84 86 (Int32.ofNat 32) = true := by decide +kernel
theorem zd119_86 : zD 119 86 (.iload_n 2) 1 87 = true := by decide +kernel
theorem zd119_87 : zD 119 87 .imul 1 88 = true := by decide +kernel
theorem zd119_88 : zDm 119 88 .ge 108 91 = true := by decide +kernel
theorem zd119_91 : zD 119 91 (.aload_n 0) 1 92 = true := by decide +kernel
theorem zd119_92 : zD 119 92 (.aload_n 0) 1 93 = true := by decide +kernel
theorem zd119_93 : zDg 119 93 96 7 14 (.array .int) = true := by decide +kernel
theorem zd119_96 : zD 119 96 (.iload 4) 2 98 = true := by decide +kernel
theorem zd119_98 : zD 119 98 .iaload 1 99 = true := by decide +kernel
theorem zd119_99 : zDk 119 99 102 107 0 = true := by decide +kernel
theorem zd119_102 : zDi 119 102 105 4 (Int32.ofNat 1) = true := by decide +kernel
theorem zd119_105 : zDj 119 105 82 = true := by decide +kernel
theorem zd119_108 : zD 119 108 (.aload_n 0) 1 109 = true := by decide +kernel
theorem zd119_109 : zD 119 109 (.iload_n 2) 1 110 = true := by decide +kernel
theorem zd119_110 : zDk 119 110 113 120 0 = true := by decide +kernel
theorem zd119_113 : zDc 119 113 114 (Int32.ofNat 0) = true := by decide +kernel
theorem zd119_114 : zD 119 114 (.istore 4) 2 116 = true := by decide +kernel
theorem zd119_116 : zD 119 116 (.iload 4) 2 118 = true := by decide +kernel
theorem zd119_118 : zDc 119 118 120 (Int32.ofNat 32) = true := by decide +kernel
theorem zd119_120 : zDm 119 120 .ge 140 123 = true := by decide +kernel
theorem zd119_123 : zD 119 123 (.aload_n 0) 1 124 = true := by decide +kernel
theorem zd119_124 : zD 119 124 (.aload_n 0) 1 125 = true := by decide +kernel
theorem zd119_125 : zDg 119 125 128 7 7 (.array .int) = true := by decide +kernel
theorem zd119_128 : zD 119 128 (.iload 4) 2 130 = true := by decide +kernel
theorem zd119_130 : zD 119 130 .iaload 1 131 = true := by decide +kernel
theorem zd119_131 : zDk 119 131 134 107 0 = true := by decide +kernel
theorem zd119_134 : zDi 119 134 137 4 (Int32.ofNat 1) = true := by decide +kernel
theorem zd119_137 : zDj 119 137 116 = true := by decide +kernel
theorem zd119_140 : zD 119 140 (.aload_n 0) 1 141 = true := by decide +kernel
theorem zd119_141 : zDg 119 141 144 7 31 (.int) = true := by decide +kernel
theorem zd119_144 : zD 119 144 .ireturn 1 145 = true := by decide +kernel
theorem zd120_0 : zD 120 0 (.aload_n 0) 1 1 = true := by decide +kernel
theorem zd120_1 : zDk 120 1 4 93 0 = true := by decide +kernel
theorem zd120_4 : zDc 120 4 5 (Int32.ofNat 0) = true := by decide +kernel
theorem zd120_5 : zD 120 5 (.istore_n 2) 1 6 = true := by decide +kernel
theorem zd120_6 : zD 120 6 (.iload_n 2) 1 7 = true := by decide +kernel
theorem zd120_7 : zD 120 7 (.iload_n 1) 1 8 = true := by decide +kernel
theorem zd120_8 : zDm 120 8 .ge 42 11 = true := by decide +kernel
theorem zd120_11 : zD 120 11 (.aload_n 0) 1 12 = true := by decide +kernel
theorem zd120_12 : zD 120 12 (.aload_n 0) 1 13 = true := by decide +kernel
theorem zd120_13 : zDg 120 13 16 7 7 (.array .int) = true := by decide +kernel
theorem zd120_16 : zDc 120 16 17 (Int32.ofNat 0) = true := by decide +kernel
theorem zd120_17 : zDk 120 17 20 98 0 = true := by decide +kernel
theorem zd120_20 : zD 120 20 (.aload_n 0) 1 21 = true := by decide +kernel
theorem zd120_21 : zD 120 21 (.aload_n 0) 1 22 = true := by decide +kernel
theorem zd120_22 : zDg 120 22 25 7 14 (.array .int) = true := by decide +kernel
theorem zd120_25 : zDc 120 25 27 (Int32.ofNat 32) = true := by decide +kernel
theorem zd120_27 : zD 120 27 (.iload_n 2) 1 28 = true := by decide +kernel
theorem zd120_28 : zD 120 28 .imul 1 29 = true := by decide +kernel
theorem zd120_29 : zDk 120 29 32 98 0 = true := by decide +kernel
theorem zd120_32 : zD 120 32 (.aload_n 0) 1 33 = true := by decide +kernel
theorem zd120_33 : zDk 120 33 36 93 0 = true := by decide +kernel
theorem zd120_36 : zDi 120 36 39 2 (Int32.ofNat 1) = true := by decide +kernel
theorem zd120_39 : zDj 120 39 6 = true := by decide +kernel
theorem zd120_42 : zD 120 42 .return_ 1 43 = true := by decide +kernel
theorem zd121_0 : zD 121 0 (.aload_n 0) 1 1 = true := by decide +kernel
theorem zd121_1 : zD 121 1 (.aload_n 0) 1 2 = true := by decide +kernel
theorem zd121_2 : zD 121 2 (.iload_n 1) 1 3 = true := by decide +kernel
theorem zd121_3 : zD 121 3 (.iload_n 2) 1 4 = true := by decide +kernel
theorem zd121_4 : zDk 121 4 7 103 0 = true := by decide +kernel
theorem zd121_7 : zDf 121 7 .eq 14 10 = true := by decide +kernel
theorem zd121_10 : zDc 121 10 11 (Int32.ofNat 0) = true := by decide +kernel
theorem zd121_11 : zDj 121 11 15 = true := by decide +kernel
theorem zd121_14 : zDc 121 14 15 (Int32.ofNat 1) = true := by decide +kernel
theorem zd121_15 : zDp 121 15 18 7 0 (.int) = true := by decide +kernel
theorem zd121_18 : zD 121 18 (.aload_n 0) 1 19 = true := by decide +kernel
theorem zd121_19 : zDg 121 19 22 7 0 (.int) = true := by decide +kernel
theorem zd121_22 : zDf 121 22 .eq 27 25 = true := by decide +kernel
theorem zd121_25 : zDc 121 25 26 (Int32.ofNat 0) = true := by decide +kernel
theorem zd121_26 : zD 121 26 .ireturn 1 27 = true := by decide +kernel
theorem zd121_27 : zDc 121 27 29 (Int32.ofNat 8) = true := by decide +kernel
theorem zd121_29 : zD 121 29 (.iload_n 1) 1 30 = true := by decide +kernel
theorem zd121_30 : zD 121 30 .imul 1 31 = true := by decide +kernel
theorem zd121_31 : zD 121 31 (.iload_n 2) 1 32 = true := by decide +kernel
theorem zd121_32 : zD 121 32 .iadd 1 33 = true := by decide +kernel
theorem zd121_33 : zD 121 33 (.istore_n 3) 1 34 = true := by decide +kernel
theorem zd121_34 : zD 121 34 (.iload_n 1) 1 35 = true := by decide +kernel
theorem zd121_35 : zDf 121 35 .ne 42 38 = true := by decide +kernel
theorem zd121_38 : zDc 121 38 39 (-1) = true := by decide +kernel
theorem zd121_39 : zDj 121 39 55 = true := by decide +kernel
theorem zd121_42 : zD 121 42 (.aload_n 0) 1 43 = true := by decide +kernel
theorem zd121_43 : zD 121 43 (.iload_n 1) 1 44 = true := by decide +kernel
theorem zd121_44 : zDc 121 44 45 (Int32.ofNat 1) = true := by decide +kernel
theorem zd121_45 : zD 121 45 .isub 1 46 = true := by decide +kernel
theorem zd121_46 : zD 121 46 (.aload_n 0) 1 47 = true := by decide +kernel
theorem zd121_47 : zDg 121 47 50 7 10 (.array .int) = true := by decide +kernel
theorem zd121_50 : zD 121 50 (.iload_n 3) 1 51 = true := by decide +kernel
theorem zd121_51 : zD 121 51 .iaload 1 52 = true := by decide +kernel
theorem zd121_52 : zDk 121 52 55 86 0 = true := by decide +kernel
theorem zd121_55 : zD 121 55 (.istore 4) 2 57 = true := by decide +kernel
theorem zd121_57 : zD 121 57 (.iload 4) 2 59 = true := by decide +kernel
theorem zd121_59 : zDc 121 59 60 (-1) = true := by decide +kernel
theorem zd121_60 : zDm 121 60 .ne 65 63 = true := by decide +kernel
theorem zd121_63 : zDc 121 63 64 (Int32.ofNat 2) = true := by decide +kernel
theorem zd121_64 : zD 121 64 .ireturn 1 65 = true := by decide +kernel
theorem zd121_65 : zDc 121 65 67 (Int32.ofNat 8) = true := by decide +kernel
theorem zd121_67 : zD 121 67 (.iload_n 1) 1 68 = true := by decide +kernel
theorem zd121_68 : zDc 121 68 69 (Int32.ofNat 1) = true := by decide +kernel
theorem zd121_69 : zD 121 69 .isub 1 70 = true := by decide +kernel
theorem zd121_70 : zD 121 70 .imul 1 71 = true := by decide +kernel
theorem zd121_71 : zD 121 71 (.iload 4) 2 73 = true := by decide +kernel
theorem zd121_73 : zD 121 73 .iadd 1 74 = true := by decide +kernel
theorem zd121_74 : zD 121 74 (.istore 5) 2 76 = true := by decide +kernel
theorem zd121_76 : zD 121 76 (.aload_n 0) 1 77 = true := by decide +kernel
theorem zd121_77 : zDg 121 77 80 7 11 (.array .int) = true := by decide +kernel
theorem zd121_80 : zD 121 80 (.iload_n 3) 1 81 = true := by decide +kernel
theorem zd121_81 : zD 121 81 .iaload 1 82 = true := by decide +kernel
theorem zd121_82 : zD 121 82 (.aload_n 0) 1 83 = true := by decide +kernel
theorem zd121_83 : zDg 121 83 86 7 11 (.array .int) = true := by decide +kernel
theorem zd121_86 : zD 121 86 (.iload 5) 2 88 = true := by decide +kernel
theorem zd121_88 : zD 121 88 .iaload 1 89 = true := by decide +kernel
theorem zd121_89 : zDm 121 89 .ne 96 92 = true := by decide +kernel
theorem zd121_92 : zDc 121 92 93 (Int32.ofNat 1) = true := by decide +kernel
theorem zd121_93 : zDj 121 93 97 = true := by decide +kernel
theorem zd121_96 : zDc 121 96 97 (Int32.ofNat 0) = true := by decide +kernel
theorem zd121_97 : zD 121 97 (.istore 6) 2 99 = true := by decide +kernel
theorem zd121_99 : zDc 121 99 100 (Int32.ofNat 0) = true := by decide +kernel
theorem zd121_100 : zD 121 100 (.istore 7) 2 102 = true := by decide +kernel
theorem zd121_102 : zD 121 102 (.iload 7) 2 104 = true := by decide +kernel
theorem zd121_104 : zD 121 104 (.aload_n 0) 1 105 = true := by decide +kernel
theorem zd121_105 : zDg 121 105 108 7 11 (.array .int) = true := by decide +kernel
theorem zd121_108 : zD 121 108 (.iload_n 3) 1 109 = true := by decide +kernel
theorem zd121_109 : zD 121 109 .iaload 1 110 = true := by decide +kernel
theorem zd121_110 : zDm 121 110 .ge 159 113 = true := by decide +kernel
theorem zd121_113 : zD 121 113 (.iload 6) 2 115 = true := by decide +kernel
theorem zd121_115 : zDf 121 115 .eq 159 118 = true := by decide +kernel
theorem zd121_118 : zD 121 118 (.aload_n 0) 1 119 = true := by decide +kernel
theorem zd121_119 : zDg 121 119 122 7 12 (.array .int) = true := by decide +kernel
theorem zd121_122 : zDc 121 122 124 (Int32.ofNat 64) = true := by decide +kernel
theorem zd121_124 : zD 121 124 (.iload_n 3) 1 125 = true := by decide +kernel
theorem zd121_125 : zD 121 125 .imul 1 126 = true := by decide +kernel
theorem zd121_126 : zD 121 126 (.iload 7) 2 128 = true := by decide +kernel
theorem zd121_128 : zD 121 128 .iadd 1 129 = true := by decide +kernel
theorem zd121_129 : zD 121 129 .iaload 1 130 = true := by decide +kernel
theorem zd121_130 : zD 121 130 (.aload_n 0) 1 131 = true := by decide +kernel
theorem zd121_131 : zDg 121 131 134 7 12 (.array .int) = true := by decide +kernel
theorem zd121_134 : zDc 121 134 136 (Int32.ofNat 64) = true := by decide +kernel
theorem zd121_136 : zD 121 136 (.iload 5) 2 138 = true := by decide +kernel
theorem zd121_138 : zD 121 138 .imul 1 139 = true := by decide +kernel
theorem zd121_139 : zD 121 139 (.iload 7) 2 141 = true := by decide +kernel
theorem zd121_141 : zD 121 141 .iadd 1 142 = true := by decide +kernel
theorem zd121_142 : zD 121 142 .iaload 1 143 = true := by decide +kernel
theorem zd121_143 : zDm 121 143 .ne 150 146 = true := by decide +kernel
theorem zd121_146 : zDc 121 146 147 (Int32.ofNat 1) = true := by decide +kernel
theorem zd121_147 : zDj 121 147 151 = true := by decide +kernel
theorem zd121_150 : zDc 121 150 151 (Int32.ofNat 0) = true := by decide +kernel
theorem zd121_151 : zD 121 151 (.istore 6) 2 153 = true := by decide +kernel
theorem zd121_153 : zDi 121 153 156 7 (Int32.ofNat 1) = true := by decide +kernel
theorem zd121_156 : zDj 121 156 102 = true := by decide +kernel
theorem zd121_159 : zD 121 159 (.iload 6) 2 161 = true := by decide +kernel
theorem zd121_161 : zDf 121 161 .eq 168 164 = true := by decide +kernel
theorem zd121_164 : zDc 121 164 165 (Int32.ofNat 0) = true := by decide +kernel
theorem zd121_165 : zDj 121 165 169 = true := by decide +kernel
theorem zd121_168 : zDc 121 168 169 (Int32.ofNat 1) = true := by decide +kernel
theorem zd121_169 : zD 121 169 .ireturn 1 170 = true := by decide +kernel
