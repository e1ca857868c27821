/-! The instructions of the law -/
theorem zd39_0 : zD 39 0 (.aload_n 2) 1 1 = true := by decide +kernel
theorem zd39_1 : zDc 39 1 2 (Int32.ofNat 0) = true := by decide +kernel
theorem zd39_2 : zD 39 2 (.aload_n 0) 1 3 = true := by decide +kernel
theorem zd39_3 : zD 39 3 (.iload_n 1) 1 4 = true := by decide +kernel
theorem zd39_4 : zDk 39 4 7 40 0 = true := by decide +kernel
theorem zd39_7 : zD 39 7 .i2l 1 8 = true := by decide +kernel
theorem zd39_8 : zD 39 8 .lastore 1 9 = true := by decide +kernel
theorem zd39_9 : zDj 39 9 15 = true := by decide +kernel
theorem zd39_12 : zD 39 12 (.astore_n 3) 1 13 = true := by decide +kernel
theorem zd39_13 : zDc 39 13 14 (Int32.ofNat 1) = true := by decide +kernel
theorem zd39_14 : zD 39 14 .ireturn 1 15 = true := by decide +kernel
theorem zd39_15 : zDc 39 15 16 (Int32.ofNat 0) = true := by decide +kernel
theorem zd39_16 : zD 39 16 .ireturn 1 17 = true := by decide +kernel
theorem zd43_0 : zD 43 0 (.aload_n 3) 1 1 = true := by decide +kernel
theorem zd43_1 : zDc 43 1 2 (Int32.ofNat 0) = true := by decide +kernel
theorem zd43_2 : zD 43 2 (.aload_n 0) 1 3 = true := by decide +kernel
theorem zd43_3 : zD 43 3 (.iload_n 1) 1 4 = true := by decide +kernel
theorem zd43_4 : zD 43 4 (.iload_n 2) 1 5 = true := by decide +kernel
theorem zd43_5 : zDk 43 5 8 44 0 = true := by decide +kernel
theorem zd43_8 : zDf 43 8 .eq 15 11 = true := by decide +kernel
theorem zd43_11 : zDC 43 11 12 (1) = true := by decide +kernel
theorem zd43_12 : zDj 43 12 16 = true := by decide +kernel
theorem zd43_15 : zDC 43 15 16 (0) = true := by decide +kernel
theorem zd43_16 : zD 43 16 .lastore 1 17 = true := by decide +kernel
theorem zd43_17 : zDj 43 17 28 = true := by decide +kernel
theorem zd43_20 : zD 43 20 (.astore 4) 2 22 = true := by decide +kernel
theorem zd43_22 : zDc 43 22 23 (Int32.ofNat 1) = true := by decide +kernel
theorem zd43_23 : zD 43 23 .ireturn 1 24 = true := by decide +kernel
theorem zd43_24 : zD 43 24 (.astore 4) 2 26 = true := by decide +kernel
theorem zd43_26 : zDc 43 26 27 (Int32.ofNat 2) = true := by decide +kernel
theorem zd43_27 : zD 43 27 .ireturn 1 28 = true := by decide +kernel
theorem zd43_28 : zDc 43 28 29 (Int32.ofNat 0) = true := by decide +kernel
theorem zd43_29 : zD 43 29 .ireturn 1 30 = true := by decide +kernel
theorem zd47_0 : zD 47 0 (.aload_n 3) 1 1 = true := by decide +kernel
theorem zd47_1 : zDc 47 1 2 (Int32.ofNat 0) = true := by decide +kernel
theorem zd47_2 : zD 47 2 (.aload_n 0) 1 3 = true := by decide +kernel
theorem zd47_3 : zD 47 3 (.iload_n 1) 1 4 = true := by decide +kernel
theorem zd47_4 : zD 47 4 (.iload_n 2) 1 5 = true := by decide +kernel
theorem zd47_5 : zDk 47 5 8 48 0 = true := by decide +kernel
theorem zd47_8 : zD 47 8 .i2l 1 9 = true := by decide +kernel
theorem zd47_9 : zD 47 9 .lastore 1 10 = true := by decide +kernel
theorem zd47_10 : zDj 47 10 17 = true := by decide +kernel
theorem zd47_13 : zD 47 13 (.astore 4) 2 15 = true := by decide +kernel
theorem zd47_15 : zDc 47 15 16 (Int32.ofNat 1) = true := by decide +kernel
theorem zd47_16 : zD 47 16 .ireturn 1 17 = true := by decide +kernel
theorem zd47_17 : zDc 47 17 18 (Int32.ofNat 0) = true := by decide +kernel
theorem zd47_18 : zD 47 18 .ireturn 1 19 = true := by decide +kernel
theorem zd51_0 : zD 51 0 (.aload 4) 2 2 = true := by decide +kernel
theorem zd51_2 : zDc 51 2 3 (Int32.ofNat 0) = true := by decide +kernel
theorem zd51_3 : zD 51 3 (.aload_n 0) 1 4 = true := by decide +kernel
theorem zd51_4 : zD 51 4 (.iload_n 1) 1 5 = true := by decide +kernel
theorem zd51_5 : zD 51 5 (.iload_n 2) 1 6 = true := by decide +kernel
theorem zd51_6 : zD 51 6 (.iload_n 3) 1 7 = true := by decide +kernel
theorem zd51_7 : zDk 51 7 10 52 0 = true := by decide +kernel
theorem zd51_10 : zD 51 10 .i2l 1 11 = true := by decide +kernel
theorem zd51_11 : zD 51 11 .lastore 1 12 = true := by decide +kernel
theorem zd51_12 : zDj 51 12 19 = true := by decide +kernel
theorem zd51_15 : zD 51 15 (.astore 5) 2 17 = true := by decide +kernel
theorem zd51_17 : zDc 51 17 18 (Int32.ofNat 1) = true := by decide +kernel
theorem zd51_18 : zD 51 18 .ireturn 1 19 = true := by decide +kernel
theorem zd51_19 : zDc 51 19 20 (Int32.ofNat 0) = true := by decide +kernel
theorem zd51_20 : zD 51 20 .ireturn 1 21 = true := by decide +kernel
theorem zd59_0 : zD 59 0 (.aload 4) 2 2 = true := by decide +kernel
theorem zd59_2 : zDc 59 2 3 (Int32.ofNat 0) = true := by decide +kernel
theorem zd59_3 : zD 59 3 (.aload_n 0) 1 4 = true := by decide +kernel
theorem zd59_4 : zD 59 4 (.iload_n 1) 1 5 = true := by decide +kernel
theorem zd59_5 : zD 59 5 (.iload_n 2) 1 6 = true := by decide +kernel
theorem zd59_6 : zD 59 6 (.iload_n 3) 1 7 = true := by decide +kernel
theorem zd59_7 : zDk 59 7 10 60 0 = true := by decide +kernel
theorem zd59_10 : zD 59 10 .i2l 1 11 = true := by decide +kernel
theorem zd59_11 : zD 59 11 .lastore 1 12 = true := by decide +kernel
theorem zd59_12 : zDj 59 12 23 = true := by decide +kernel
theorem zd59_15 : zD 59 15 (.astore 5) 2 17 = true := by decide +kernel
theorem zd59_17 : zDc 59 17 18 (Int32.ofNat 1) = true := by decide +kernel
theorem zd59_18 : zD 59 18 .ireturn 1 19 = true := by decide +kernel
theorem zd59_19 : zD 59 19 (.astore 5) 2 21 = true := by decide +kernel
theorem zd59_21 : zDc 59 21 22 (Int32.ofNat 2) = true := by decide +kernel
theorem zd59_22 : zD 59 22 .ireturn 1 23 = true := by decide +kernel
theorem zd59_23 : zDc 59 23 24 (Int32.ofNat 0) = true := by decide +kernel
theorem zd59_24 : zD 59 24 .ireturn 1 25 = true := by decide +kernel
theorem zd63_0 : zD 63 0 (.aload_n 2) 1 1 = true := by decide +kernel
theorem zd63_1 : zDc 63 1 2 (Int32.ofNat 0) = true := by decide +kernel
theorem zd63_2 : zD 63 2 (.aload_n 0) 1 3 = true := by decide +kernel
theorem zd63_3 : zD 63 3 (.iload_n 1) 1 4 = true := by decide +kernel
theorem zd63_4 : zDk 63 4 7 64 0 = true := by decide +kernel
theorem zd63_7 : zD 63 7 .i2l 1 8 = true := by decide +kernel
theorem zd63_8 : zD 63 8 .lastore 1 9 = true := by decide +kernel
theorem zd63_9 : zDj 63 9 15 = true := by decide +kernel
theorem zd63_12 : zD 63 12 (.astore_n 3) 1 13 = true := by decide +kernel
theorem zd63_13 : zDc 63 13 14 (Int32.ofNat 1) = true := by decide +kernel
theorem zd63_14 : zD 63 14 .ireturn 1 15 = true := by decide +kernel
theorem zd63_15 : zDc 63 15 16 (Int32.ofNat 0) = true := by decide +kernel
theorem zd63_16 : zD 63 16 .ireturn 1 17 = true := by decide +kernel
theorem zd65_0 : zD 65 0 (.aload_n 2) 1 1 = true := by decide +kernel
theorem zd65_1 : zDc 65 1 2 (Int32.ofNat 0) = true := by decide +kernel
theorem zd65_2 : zD 65 2 (.aload_n 0) 1 3 = true := by decide +kernel
theorem zd65_3 : zD 65 3 (.iload_n 1) 1 4 = true := by decide +kernel
theorem zd65_4 : zDk 65 4 7 66 0 = true := by decide +kernel
theorem zd65_7 : zD 65 7 .i2l 1 8 = true := by decide +kernel
theorem zd65_8 : zD 65 8 .lastore 1 9 = true := by decide +kernel
theorem zd65_9 : zDj 65 9 15 = true := by decide +kernel
theorem zd65_12 : zD 65 12 (.astore_n 3) 1 13 = true := by decide +kernel
theorem zd65_13 : zDc 65 13 14 (Int32.ofNat 1) = true := by decide +kernel
theorem zd65_14 : zD 65 14 .ireturn 1 15 = true := by decide +kernel
theorem zd65_15 : zDc 65 15 16 (Int32.ofNat 0) = true := by decide +kernel
theorem zd65_16 : zD 65 16 .ireturn 1 17 = true := by decide +kernel
theorem zd67_0 : zD 67 0 (.aload 4) 2 2 = true := by decide +kernel
theorem zd67_2 : zDc 67 2 3 (Int32.ofNat 0) = true := by decide +kernel
theorem zd67_3 : zD 67 3 (.aload_n 0) 1 4 = true := by decide +kernel
theorem zd67_4 : zD 67 4 (.iload_n 1) 1 5 = true := by decide +kernel
theorem zd67_5 : zD 67 5 (.iload_n 2) 1 6 = true := by decide +kernel
theorem zd67_6 : zD 67 6 (.iload_n 3) 1 7 = true := by decide +kernel
theorem zd67_7 : zDk 67 7 10 68 0 = true := by decide +kernel
theorem zd67_10 : zD 67 10 .i2l 1 11 = true := by decide +kernel
theorem zd67_11 : zD 67 11 .lastore 1 12 = true := by decide +kernel
theorem zd67_12 : zDj 67 12 19 = true := by decide +kernel
theorem zd67_15 : zD 67 15 (.astore 5) 2 17 = true := by decide +kernel
theorem zd67_17 : zDc 67 17 18 (Int32.ofNat 1) = true := by decide +kernel
theorem zd67_18 : zD 67 18 .ireturn 1 19 = true := by decide +kernel
theorem zd67_19 : zDc 67 19 20 (Int32.ofNat 0) = true := by decide +kernel
theorem zd67_20 : zD 67 20 .ireturn 1 21 = true := by decide +kernel
theorem zd71_0 : zD 71 0 (.aload 4) 2 2 = true := by decide +kernel
theorem zd71_2 : zDc 71 2 3 (Int32.ofNat 0) = true := by decide +kernel
theorem zd71_3 : zD 71 3 (.aload_n 0) 1 4 = true := by decide +kernel
theorem zd71_4 : zD 71 4 (.iload_n 1) 1 5 = true := by decide +kernel
theorem zd71_5 : zD 71 5 (.iload_n 2) 1 6 = true := by decide +kernel
theorem zd71_6 : zD 71 6 (.iload_n 3) 1 7 = true := by decide +kernel
theorem zd71_7 : zDk 71 7 10 72 0 = true := by decide +kernel
theorem zd71_10 : zD 71 10 .i2l 1 11 = true := by decide +kernel
theorem zd71_11 : zD 71 11 .lastore 1 12 = true := by decide +kernel
theorem zd71_12 : zDj 71 12 19 = true := by decide +kernel
theorem zd71_15 : zD 71 15 (.astore 5) 2 17 = true := by decide +kernel
theorem zd71_17 : zDc 71 17 18 (Int32.ofNat 1) = true := by decide +kernel
theorem zd71_18 : zD 71 18 .ireturn 1 19 = true := by decide +kernel
theorem zd71_19 : zDc 71 19 20 (Int32.ofNat 0) = true := by decide +kernel
theorem zd71_20 : zD 71 20 .ireturn 1 21 = true := by decide +kernel
theorem zd73_0 : zD 73 0 (.aload 4) 2 2 = true := by decide +kernel
theorem zd73_2 : zDc 73 2 3 (Int32.ofNat 0) = true := by decide +kernel
theorem zd73_3 : zD 73 3 (.aload_n 0) 1 4 = true := by decide +kernel
theorem zd73_4 : zD 73 4 (.iload_n 1) 1 5 = true := by decide +kernel
theorem zd73_5 : zD 73 5 (.iload_n 2) 1 6 = true := by decide +kernel
theorem zd73_6 : zD 73 6 (.iload_n 3) 1 7 = true := by decide +kernel
theorem zd73_7 : zDk 73 7 10 74 0 = true := by decide +kernel
theorem zd73_10 : zD 73 10 .i2l 1 11 = true := by decide +kernel
theorem zd73_11 : zD 73 11 .lastore 1 12 = true := by decide +kernel
theorem zd73_12 : zDj 73 12 19 = true := by decide +kernel
theorem zd73_15 : zD 73 15 (.astore 5) 2 17 = true := by decide +kernel
theorem zd73_17 : zDc 73 17 18 (Int32.ofNat 1) = true := by decide +kernel
theorem zd73_18 : zD 73 18 .ireturn 1 19 = true := by decide +kernel
theorem zd73_19 : zDc 73 19 20 (Int32.ofNat 0) = true := by decide +kernel
theorem zd73_20 : zD 73 20 .ireturn 1 21 = true := by decide +kernel
theorem zd75_0 : zD 75 0 (.aload_n 3) 1 1 = true := by decide +kernel
theorem zd75_1 : zDc 75 1 2 (Int32.ofNat 0) = true := by decide +kernel
theorem zd75_2 : zD 75 2 (.aload_n 0) 1 3 = true := by decide +kernel
theorem zd75_3 : zD 75 3 (.iload_n 1) 1 4 = true := by decide +kernel
theorem zd75_4 : zD 75 4 (.iload_n 2) 1 5 = true := by decide +kernel
theorem zd75_5 : zDk 75 5 8 76 0 = true := by decide +kernel
theorem zd75_8 : zDf 75 8 .eq 15 11 = true := by decide +kernel
theorem zd75_11 : zDC 75 11 12 (1) = true := by decide +kernel
theorem zd75_12 : zDj 75 12 16 = true := by decide +kernel
theorem zd75_15 : zDC 75 15 16 (0) = true := by decide +kernel
theorem zd75_16 : zD 75 16 .lastore 1 17 = true := by decide +kernel
theorem zd75_17 : zDj 75 17 24 = true := by decide +kernel
theorem zd75_20 : zD 75 20 (.astore 4) 2 22 = true := by decide +kernel
theorem zd75_22 : zDc 75 22 23 (Int32.ofNat 1) = true := by decide +kernel
theorem zd75_23 : zD 75 23 .ireturn 1 24 = true := by decide +kernel
theorem zd75_24 : zDc 75 24 25 (Int32.ofNat 0) = true := by decide +kernel
theorem zd75_25 : zD 75 25 .ireturn 1 26 = true := by decide +kernel
theorem zd78_0 : zD 78 0 (.aload_n 3) 1 1 = true := by decide +kernel
theorem zd78_1 : zDc 78 1 2 (Int32.ofNat 0) = true := by decide +kernel
theorem zd78_2 : zD 78 2 (.aload_n 0) 1 3 = true := by decide +kernel
theorem zd78_3 : zD 78 3 (.iload_n 1) 1 4 = true := by decide +kernel
theorem zd78_4 : zD 78 4 (.iload_n 2) 1 5 = true := by decide +kernel
theorem zd78_5 : zDk 78 5 8 79 0 = true := by decide +kernel
theorem zd78_8 : zD 78 8 .i2l 1 9 = true := by decide +kernel
theorem zd78_9 : zD 78 9 .lastore 1 10 = true := by decide +kernel
theorem zd78_10 : zDj 78 10 17 = true := by decide +kernel
theorem zd78_13 : zD 78 13 (.astore 4) 2 15 = true := by decide +kernel
theorem zd78_15 : zDc 78 15 16 (Int32.ofNat 1) = true := by decide +kernel
theorem zd78_16 : zD 78 16 .ireturn 1 17 = true := by decide +kernel
theorem zd78_17 : zDc 78 17 18 (Int32.ofNat 0) = true := by decide +kernel
theorem zd78_18 : zD 78 18 .ireturn 1 19 = true := by decide +kernel
theorem zd0_0 : zDw 0 0 3 0 = true := by decide +kernel
theorem zd0_3 : zD 0 3 .dup 1 4 = true := by decide +kernel
theorem zd0_4 : zDk 0 4 7 1 1 = true := by decide +kernel
theorem zd0_7 : zD 0 7 (.astore_n 1) 1 8 = true := by decide +kernel
theorem zd0_8 : zDw 0 8 11 7 = true := by decide +kernel
theorem zd0_11 : zD 0 11 .dup 1 12 = true := by decide +kernel
theorem zd0_12 : zDk 0 12 15 81 1 = true := by decide +kernel
theorem zd0_15 : zD 0 15 (.astore_n 2) 1 16 = true := by decide +kernel
theorem zd0_16 : zDc 0 16 17 (Int32.ofNat 1) = true := by decide +kernel
theorem zd0_17 : zD 0 17 (.newarray .long) 2 19 = true := by decide +kernel
theorem zd0_19 : zD 0 19 (.astore_n 3) 1 20 = true := by decide +kernel
theorem zd0_20 : zDc 0 20 21 (Int32.ofNat 0) = true := by decide +kernel
theorem zd0_21 : zD 0 21 (.istore 4) 2 23 = true := by decide +kernel
theorem zd0_23 : zD 0 23 (.iload 4) 2 25 = true := by decide +kernel
theorem zd0_25 : zD 0 25 (.aload_n 0) 1 26 = true := by decide +kernel
theorem zd0_26 : zD 0 26 .arraylength 1 27 = true := by decide +kernel
theorem zd0_27 : zDc 0 27 28 (Int32.ofNat 4) = true := by decide +kernel
theorem zd0_28 : zD 0 28 .isub 1 29 = true := by decide +kernel
theorem zd0_29 : zDm 0 29 .gt 1055 32 = true := by decide +kernel
theorem zd0_32 : zD 0 32 (.aload_n 0) 1 33 = true := by decide +kernel
theorem zd0_33 : zD 0 33 (.iload 4) 2 35 = true := by decide +kernel
theorem zd0_35 : zD 0 35 .iaload 1 36 = true := by decide +kernel
theorem zd0_36 : zDc 0 36 38 (Int32.ofNat 31) = true := by decide +kernel
theorem zd0_38 : zD 0 38 .iand 1 39 = true := by decide +kernel
theorem zd0_120 : zD 0 120 (.aload_n 1) 1 121 = true := by decide +kernel
theorem zd0_121 : zD 0 121 (.aload_n 0) 1 122 = true := by decide +kernel
theorem zd0_122 : zD 0 122 (.iload 4) 2 124 = true := by decide +kernel
theorem zd0_124 : zDc 0 124 125 (Int32.ofNat 1) = true := by decide +kernel
theorem zd0_125 : zD 0 125 .iadd 1 126 = true := by decide +kernel
theorem zd0_126 : zD 0 126 .iaload 1 127 = true := by decide +kernel
theorem zd0_127 : zD 0 127 (.aload_n 3) 1 128 = true := by decide +kernel
theorem zd0_128 : zDk 0 128 131 39 2 = true := by decide +kernel
theorem zd0_131 : zD 0 131 (.istore 5) 2 133 = true := by decide +kernel
theorem zd0_133 : zD 0 133 (.aload_n 2) 1 134 = true := by decide +kernel
theorem zd0_134 : zD 0 134 (.aload_n 0) 1 135 = true := by decide +kernel
theorem zd0_135 : zD 0 135 (.iload 4) 2 137 = true := by decide +kernel
theorem zd0_137 : zDc 0 137 138 (Int32.ofNat 1) = true := by decide +kernel
theorem zd0_138 : zD 0 138 .iadd 1 139 = true := by decide +kernel
theorem zd0_139 : zD 0 139 .iaload 1 140 = true := by decide +kernel
theorem zd0_140 : zDk 0 140 143 85 0 = true := by decide +kernel
theorem zd0_143 : zD 0 143 (.istore 6) 2 145 = true := by decide +kernel
theorem zd0_145 : zD 0 145 (.aload_n 2) 1 146 = true := by decide +kernel
theorem zd0_146 : zDk 0 146 149 84 0 = true := by decide +kernel
theorem zd0_149 : zD 0 149 (.iload 5) 2 151 = true := by decide +kernel
theorem zd0_151 : zDm 0 151 .eq 156 154 = true := by decide +kernel
theorem zd0_154 : zDc 0 154 155 (Int32.ofNat 0) = true := by decide +kernel
theorem zd0_155 : zD 0 155 .ireturn 1 156 = true := by decide +kernel
theorem zd0_156 : zD 0 156 (.iload 5) 2 158 = true := by decide +kernel
theorem zd0_158 : zDf 0 158 .ne 173 161 = true := by decide +kernel
theorem zd0_161 : zD 0 161 (.aload_n 3) 1 162 = true := by decide +kernel
theorem zd0_162 : zDc 0 162 163 (Int32.ofNat 0) = true := by decide +kernel
theorem zd0_163 : zD 0 163 .laload 1 164 = true := by decide +kernel
theorem zd0_164 : zD 0 164 (.iload 6) 2 166 = true := by decide +kernel
theorem zd0_166 : zD 0 166 .i2l 1 167 = true := by decide +kernel
theorem zd0_167 : zD 0 167 .lcmp 1 168 = true := by decide +kernel
theorem zd0_168 : zDf 0 168 .eq 173 171 = true := by decide +kernel
theorem zd0_171 : zDc 0 171 172 (Int32.ofNat 0) = true := by decide +kernel
theorem zd0_172 : zD 0 172 .ireturn 1 173 = true := by decide +kernel
theorem zd0_173 : zDj 0 173 1049 = true := by decide +kernel
theorem zd0_176 : zD 0 176 (.aload_n 1) 1 177 = true := by decide +kernel
theorem zd0_177 : zD 0 177 (.aload_n 0) 1 178 = true := by decide +kernel
theorem zd0_178 : zD 0 178 (.iload 4) 2 180 = true := by decide +kernel
theorem zd0_180 : zDc 0 180 181 (Int32.ofNat 1) = true := by decide +kernel
theorem zd0_181 : zD 0 181 .iadd 1 182 = true := by decide +kernel
theorem zd0_182 : zD 0 182 .iaload 1 183 = true := by decide +kernel
theorem zd0_183 : zD 0 183 (.aload_n 0) 1 184 = true := by decide +kernel
theorem zd0_184 : zD 0 184 (.iload 4) 2 186 = true := by decide +kernel
theorem zd0_186 : zDc 0 186 187 (Int32.ofNat 2) = true := by decide +kernel
theorem zd0_187 : zD 0 187 .iadd 1 188 = true := by decide +kernel
theorem zd0_188 : zD 0 188 .iaload 1 189 = true := by decide +kernel
theorem zd0_189 : zD 0 189 (.aload_n 3) 1 190 = true := by decide +kernel
theorem zd0_190 : zDk 0 190 193 43 2 = true := by decide +kernel
theorem zd0_193 : zD 0 193 (.istore 5) 2 195 = true := by decide +kernel
theorem zd0_195 : zD 0 195 (.aload_n 2) 1 196 = true := by decide +kernel
theorem zd0_196 : zD 0 196 (.aload_n 0) 1 197 = true := by decide +kernel
theorem zd0_197 : zD 0 197 (.iload 4) 2 199 = true := by decide +kernel
theorem zd0_199 : zDc 0 199 200 (Int32.ofNat 1) = true := by decide +kernel
theorem zd0_200 : zD 0 200 .iadd 1 201 = true := by decide +kernel
theorem zd0_201 : zD 0 201 .iaload 1 202 = true := by decide +kernel
theorem zd0_202 : zD 0 202 (.aload_n 0) 1 203 = true := by decide +kernel
theorem zd0_203 : zD 0 203 (.iload 4) 2 205 = true := by decide +kernel
theorem zd0_205 : zDc 0 205 206 (Int32.ofNat 2) = true := by decide +kernel
theorem zd0_206 : zD 0 206 .iadd 1 207 = true := by decide +kernel
theorem zd0_207 : zD 0 207 .iaload 1 208 = true := by decide +kernel
theorem zd0_208 : zDk 0 208 211 87 0 = true := by decide +kernel
theorem zd0_211 : zD 0 211 (.istore 6) 2 213 = true := by decide +kernel
theorem zd0_213 : zD 0 213 (.aload_n 2) 1 214 = true := by decide +kernel
theorem zd0_214 : zDk 0 214 217 84 0 = true := by decide +kernel
theorem zd0_217 : zD 0 217 (.iload 5) 2 219 = true := by decide +kernel
theorem zd0_219 : zDm 0 219 .eq 224 222 = true := by decide +kernel
theorem zd0_222 : zDc 0 222 223 (Int32.ofNat 0) = true := by decide +kernel
theorem zd0_223 : zD 0 223 .ireturn 1 224 = true := by decide +kernel
theorem zd0_224 : zD 0 224 (.iload 5) 2 226 = true := by decide +kernel
theorem zd0_226 : zDf 0 226 .ne 248 229 = true := by decide +kernel
theorem zd0_229 : zD 0 229 (.aload_n 3) 1 230 = true := by decide +kernel
theorem zd0_230 : zDc 0 230 231 (Int32.ofNat 0) = true := by decide +kernel
theorem zd0_231 : zD 0 231 .laload 1 232 = true := by decide +kernel
theorem zd0_232 : zD 0 232 (.iload 6) 2 234 = true := by decide +kernel
theorem zd0_234 : zDf 0 234 .eq 241 237 = true := by decide +kernel
theorem zd0_237 : zDC 0 237 238 (1) = true := by decide +kernel
theorem zd0_238 : zDj 0 238 242 = true := by decide +kernel
theorem zd0_241 : zDC 0 241 242 (0) = true := by decide +kernel
theorem zd0_242 : zD 0 242 .lcmp 1 243 = true := by decide +kernel
theorem zd0_243 : zDf 0 243 .eq 248 246 = true := by decide +kernel
theorem zd0_246 : zDc 0 246 247 (Int32.ofNat 0) = true := by decide +kernel
theorem zd0_247 : zD 0 247 .ireturn 1 248 = true := by decide +kernel
theorem zd0_248 : zDj 0 248 1049 = true := by decide +kernel
theorem zd0_251 : zD 0 251 (.aload_n 1) 1 252 = true := by decide +kernel
theorem zd0_252 : zDk 0 252 255 14 0 = true := by decide +kernel
theorem zd0_255 : zD 0 255 (.aload_n 2) 1 256 = true := by decide +kernel
theorem zd0_256 : zDk 0 256 259 89 0 = true := by decide +kernel
theorem zd0_259 : zDm 0 259 .eq 1049 262 = true := by decide +kernel
theorem zd0_262 : zDc 0 262 263 (Int32.ofNat 0) = true := by decide +kernel
theorem zd0_263 : zD 0 263 .ireturn 1 264 = true := by decide +kernel
theorem zd0_264 : zD 0 264 (.aload_n 1) 1 265 = true := by decide +kernel
theorem zd0_265 : zD 0 265 (.aload_n 0) 1 266 = true := by decide +kernel
theorem zd0_266 : zD 0 266 (.iload 4) 2 268 = true := by decide +kernel
theorem zd0_268 : zDc 0 268 269 (Int32.ofNat 1) = true := by decide +kernel
theorem zd0_269 : zD 0 269 .iadd 1 270 = true := by decide +kernel
theorem zd0_270 : zD 0 270 .iaload 1 271 = true := by decide +kernel
theorem zd0_271 : zD 0 271 (.aload_n 0) 1 272 = true := by decide +kernel
theorem zd0_272 : zD 0 272 (.iload 4) 2 274 = true := by decide +kernel
theorem zd0_274 : zDc 0 274 275 (Int32.ofNat 2) = true := by decide +kernel
theorem zd0_275 : zD 0 275 .iadd 1 276 = true := by decide +kernel
theorem zd0_276 : zD 0 276 .iaload 1 277 = true := by decide +kernel
theorem zd0_277 : zD 0 277 (.aload_n 3) 1 278 = true := by decide +kernel
theorem zd0_278 : zDk 0 278 281 47 2 = true := by decide +kernel
theorem zd0_281 : zD 0 281 (.istore 5) 2 283 = true := by decide +kernel
theorem zd0_283 : zD 0 283 (.aload_n 2) 1 284 = true := by decide +kernel
theorem zd0_284 : zD 0 284 (.aload_n 0) 1 285 = true := by decide +kernel
theorem zd0_285 : zD 0 285 (.iload 4) 2 287 = true := by decide +kernel
theorem zd0_287 : zDc 0 287 288 (Int32.ofNat 1) = true := by decide +kernel
theorem zd0_288 : zD 0 288 .iadd 1 289 = true := by decide +kernel
theorem zd0_289 : zD 0 289 .iaload 1 290 = true := by decide +kernel
theorem zd0_290 : zD 0 290 (.aload_n 0) 1 291 = true := by decide +kernel
theorem zd0_291 : zD 0 291 (.iload 4) 2 293 = true := by decide +kernel
theorem zd0_293 : zDc 0 293 294 (Int32.ofNat 2) = true := by decide +kernel
theorem zd0_294 : zD 0 294 .iadd 1 295 = true := by decide +kernel
theorem zd0_295 : zD 0 295 .iaload 1 296 = true := by decide +kernel
theorem zd0_296 : zDk 0 296 299 100 0 = true := by decide +kernel
theorem zd0_299 : zD 0 299 (.istore 6) 2 301 = true := by decide +kernel
theorem zd0_301 : zD 0 301 (.aload_n 2) 1 302 = true := by decide +kernel
theorem zd0_302 : zDk 0 302 305 84 0 = true := by decide +kernel
theorem zd0_305 : zD 0 305 (.iload 5) 2 307 = true := by decide +kernel
theorem zd0_307 : zDm 0 307 .eq 312 310 = true := by decide +kernel
theorem zd0_310 : zDc 0 310 311 (Int32.ofNat 0) = true := by decide +kernel
theorem zd0_311 : zD 0 311 .ireturn 1 312 = true := by decide +kernel
theorem zd0_312 : zD 0 312 (.iload 5) 2 314 = true := by decide +kernel
theorem zd0_314 : zDf 0 314 .ne 329 317 = true := by decide +kernel
theorem zd0_317 : zD 0 317 (.aload_n 3) 1 318 = true := by decide +kernel
theorem zd0_318 : zDc 0 318 319 (Int32.ofNat 0) = true := by decide +kernel
theorem zd0_319 : zD 0 319 .laload 1 320 = true := by decide +kernel
theorem zd0_320 : zD 0 320 (.iload 6) 2 322 = true := by decide +kernel
theorem zd0_322 : zD 0 322 .i2l 1 323 = true := by decide +kernel
theorem zd0_323 : zD 0 323 .lcmp 1 324 = true := by decide +kernel
theorem zd0_324 : zDf 0 324 .eq 329 327 = true := by decide +kernel
theorem zd0_327 : zDc 0 327 328 (Int32.ofNat 0) = true := by decide +kernel
theorem zd0_328 : zD 0 328 .ireturn 1 329 = true := by decide +kernel
theorem zd0_329 : zDj 0 329 1049 = true := by decide +kernel
theorem zd0_332 : zD 0 332 (.aload_n 1) 1 333 = true := by decide +kernel
theorem zd0_333 : zD 0 333 (.aload_n 0) 1 334 = true := by decide +kernel
theorem zd0_334 : zD 0 334 (.iload 4) 2 336 = true := by decide +kernel
theorem zd0_336 : zDc 0 336 337 (Int32.ofNat 1) = true := by decide +kernel
theorem zd0_337 : zD 0 337 .iadd 1 338 = true := by decide +kernel
theorem zd0_338 : zD 0 338 .iaload 1 339 = true := by decide +kernel
theorem zd0_339 : zD 0 339 (.aload_n 0) 1 340 = true := by decide +kernel
theorem zd0_340 : zD 0 340 (.iload 4) 2 342 = true := by decide +kernel
theorem zd0_342 : zDc 0 342 343 (Int32.ofNat 2) = true := by decide +kernel
theorem zd0_343 : zD 0 343 .iadd 1 344 = true := by decide +kernel
theorem zd0_344 : zD 0 344 .iaload 1 345 = true := by decide +kernel
theorem zd0_345 : zD 0 345 (.aload_n 0) 1 346 = true := by decide +kernel
theorem zd0_346 : zD 0 346 (.iload 4) 2 348 = true := by decide +kernel
theorem zd0_348 : zDc 0 348 349 (Int32.ofNat 3) = true := by decide +kernel
theorem zd0_349 : zD 0 349 .iadd 1 350 = true := by decide +kernel
theorem zd0_350 : zD 0 350 .iaload 1 351 = true := by decide +kernel
theorem zd0_351 : zD 0 351 (.aload_n 3) 1 352 = true := by decide +kernel
theorem zd0_352 : zDk 0 352 355 51 2 = true := by decide +kernel
theorem zd0_355 : zD 0 355 (.istore 5) 2 357 = true := by decide +kernel
theorem zd0_357 : zD 0 357 (.aload_n 2) 1 358 = true := by decide +kernel
theorem zd0_358 : zD 0 358 (.aload_n 0) 1 359 = true := by decide +kernel
theorem zd0_359 : zD 0 359 (.iload 4) 2 361 = true := by decide +kernel
theorem zd0_361 : zDc 0 361 362 (Int32.ofNat 1) = true := by decide +kernel
theorem zd0_362 : zD 0 362 .iadd 1 363 = true := by decide +kernel
theorem zd0_363 : zD 0 363 .iaload 1 364 = true := by decide +kernel
theorem zd0_364 : zD 0 364 (.aload_n 0) 1 365 = true := by decide +kernel
theorem zd0_365 : zD 0 365 (.iload 4) 2 367 = true := by decide +kernel
theorem zd0_367 : zDc 0 367 368 (Int32.ofNat 2) = true := by decide +kernel
theorem zd0_368 : zD 0 368 .iadd 1 369 = true := by decide +kernel
theorem zd0_369 : zD 0 369 .iaload 1 370 = true := by decide +kernel
theorem zd0_370 : zD 0 370 (.aload_n 0) 1 371 = true := by decide +kernel
theorem zd0_371 : zD 0 371 (.iload 4) 2 373 = true := by decide +kernel
theorem zd0_373 : zDc 0 373 374 (Int32.ofNat 3) = true := by decide +kernel
theorem zd0_374 : zD 0 374 .iadd 1 375 = true := by decide +kernel
theorem zd0_375 : zD 0 375 .iaload 1 376 = true := by decide +kernel
theorem zd0_376 : zDk 0 376 379 104 0 = true := by decide +kernel
theorem zd0_379 : zD 0 379 (.istore 6) 2 381 = true := by decide +kernel
theorem zd0_381 : zD 0 381 (.aload_n 2) 1 382 = true := by decide +kernel
theorem zd0_382 : zDk 0 382 385 84 0 = true := by decide +kernel
theorem zd0_385 : zD 0 385 (.iload 5) 2 387 = true := by decide +kernel
theorem zd0_387 : zDm 0 387 .eq 392 390 = true := by decide +kernel
theorem zd0_390 : zDc 0 390 391 (Int32.ofNat 0) = true := by decide +kernel
theorem zd0_391 : zD 0 391 .ireturn 1 392 = true := by decide +kernel
theorem zd0_392 : zD 0 392 (.iload 5) 2 394 = true := by decide +kernel
theorem zd0_394 : zDf 0 394 .ne 409 397 = true := by decide +kernel
theorem zd0_397 : zD 0 397 (.aload_n 3) 1 398 = true := by decide +kernel
theorem zd0_398 : zDc 0 398 399 (Int32.ofNat 0) = true := by decide +kernel
theorem zd0_399 : zD 0 399 .laload 1 400 = true := by decide +kernel
theorem zd0_400 : zD 0 400 (.iload 6) 2 402 = true := by decide +kernel
theorem zd0_402 : zD 0 402 .i2l 1 403 = true := by decide +kernel
theorem zd0_403 : zD 0 403 .lcmp 1 404 = true := by decide +kernel
theorem zd0_404 : zDf 0 404 .eq 409 407 = true := by decide +kernel
theorem zd0_407 : zDc 0 407 408 (Int32.ofNat 0) = true := by decide +kernel
theorem zd0_408 : zD 0 408 .ireturn 1 409 = true := by decide +kernel
theorem zd0_409 : zDj 0 409 1049 = true := by decide +kernel
theorem zd0_412 : zD 0 412 (.aload_n 1) 1 413 = true := by decide +kernel
theorem zd0_413 : zD 0 413 (.aload_n 0) 1 414 = true := by decide +kernel
theorem zd0_414 : zD 0 414 (.iload 4) 2 416 = true := by decide +kernel
theorem zd0_416 : zDc 0 416 417 (Int32.ofNat 1) = true := by decide +kernel
theorem zd0_417 : zD 0 417 .iadd 1 418 = true := by decide +kernel
theorem zd0_418 : zD 0 418 .iaload 1 419 = true := by decide +kernel
theorem zd0_419 : zDk 0 419 422 24 0 = true := by decide +kernel
theorem zd0_422 : zD 0 422 (.aload_n 2) 1 423 = true := by decide +kernel
theorem zd0_423 : zD 0 423 (.aload_n 0) 1 424 = true := by decide +kernel
theorem zd0_424 : zD 0 424 (.iload 4) 2 426 = true := by decide +kernel
theorem zd0_426 : zDc 0 426 427 (Int32.ofNat 1) = true := by decide +kernel
theorem zd0_427 : zD 0 427 .iadd 1 428 = true := by decide +kernel
theorem zd0_428 : zD 0 428 .iaload 1 429 = true := by decide +kernel
theorem zd0_429 : zDk 0 429 432 108 0 = true := by decide +kernel
theorem zd0_432 : zDm 0 432 .eq 1049 435 = true := by decide +kernel
theorem zd0_435 : zDc 0 435 436 (Int32.ofNat 0) = true := by decide +kernel
theorem zd0_436 : zD 0 436 .ireturn 1 437 = true := by decide +kernel
theorem zd0_437 : zD 0 437 (.aload_n 1) 1 438 = true := by decide +kernel
theorem zd0_438 : zDk 0 438 441 27 0 = true := by decide +kernel
theorem zd0_441 : zD 0 441 (.aload_n 2) 1 442 = true := by decide +kernel
theorem zd0_442 : zDk 0 442 445 111 0 = true := by decide +kernel
theorem zd0_445 : zDm 0 445 .eq 1049 448 = true := by decide +kernel
theorem zd0_448 : zDc 0 448 449 (Int32.ofNat 0) = true := by decide +kernel
theorem zd0_449 : zD 0 449 .ireturn 1 450 = true := by decide +kernel
theorem zd0_450 : zD 0 450 (.aload_n 1) 1 451 = true := by decide +kernel
theorem zd0_451 : zD 0 451 (.aload_n 0) 1 452 = true := by decide +kernel
theorem zd0_452 : zD 0 452 (.iload 4) 2 454 = true := by decide +kernel
theorem zd0_454 : zDc 0 454 455 (Int32.ofNat 1) = true := by decide +kernel
theorem zd0_455 : zD 0 455 .iadd 1 456 = true := by decide +kernel
theorem zd0_456 : zD 0 456 .iaload 1 457 = true := by decide +kernel
theorem zd0_457 : zD 0 457 (.aload_n 0) 1 458 = true := by decide +kernel
theorem zd0_458 : zD 0 458 (.iload 4) 2 460 = true := by decide +kernel
theorem zd0_460 : zDc 0 460 461 (Int32.ofNat 2) = true := by decide +kernel
theorem zd0_461 : zD 0 461 .iadd 1 462 = true := by decide +kernel
theorem zd0_462 : zD 0 462 .iaload 1 463 = true := by decide +kernel
theorem zd0_463 : zD 0 463 (.aload_n 0) 1 464 = true := by decide +kernel
theorem zd0_464 : zD 0 464 (.iload 4) 2 466 = true := by decide +kernel
theorem zd0_466 : zDc 0 466 467 (Int32.ofNat 3) = true := by decide +kernel
theorem zd0_467 : zD 0 467 .iadd 1 468 = true := by decide +kernel
theorem zd0_468 : zD 0 468 .iaload 1 469 = true := by decide +kernel
theorem zd0_469 : zD 0 469 (.aload_n 3) 1 470 = true := by decide +kernel
theorem zd0_470 : zDk 0 470 473 59 2 = true := by decide +kernel
theorem zd0_473 : zD 0 473 (.istore 5) 2 475 = true := by decide +kernel
theorem zd0_475 : zD 0 475 (.aload_n 2) 1 476 = true := by decide +kernel
theorem zd0_476 : zD 0 476 (.aload_n 0) 1 477 = true := by decide +kernel
theorem zd0_477 : zD 0 477 (.iload 4) 2 479 = true := by decide +kernel
theorem zd0_479 : zDc 0 479 480 (Int32.ofNat 1) = true := by decide +kernel
theorem zd0_480 : zD 0 480 .iadd 1 481 = true := by decide +kernel
theorem zd0_481 : zD 0 481 .iaload 1 482 = true := by decide +kernel
theorem zd0_482 : zD 0 482 (.aload_n 0) 1 483 = true := by decide +kernel
theorem zd0_483 : zD 0 483 (.iload 4) 2 485 = true := by decide +kernel
theorem zd0_485 : zDc 0 485 486 (Int32.ofNat 2) = true := by decide +kernel
theorem zd0_486 : zD 0 486 .iadd 1 487 = true := by decide +kernel
theorem zd0_487 : zD 0 487 .iaload 1 488 = true := by decide +kernel
theorem zd0_488 : zD 0 488 (.aload_n 0) 1 489 = true := by decide +kernel
theorem zd0_489 : zD 0 489 (.iload 4) 2 491 = true := by decide +kernel
theorem zd0_491 : zDc 0 491 492 (Int32.ofNat 3) = true := by decide +kernel
theorem zd0_492 : zD 0 492 .iadd 1 493 = true := by decide +kernel
theorem zd0_493 : zD 0 493 .iaload 1 494 = true := by decide +kernel
theorem zd0_494 : zDk 0 494 497 113 0 = true := by decide +kernel
theorem zd0_497 : zD 0 497 (.istore 6) 2 499 = true := by decide +kernel
theorem zd0_499 : zD 0 499 (.aload_n 2) 1 500 = true := by decide +kernel
theorem zd0_500 : zDk 0 500 503 84 0 = true := by decide +kernel
theorem zd0_503 : zD 0 503 (.iload 5) 2 505 = true := by decide +kernel
theorem zd0_505 : zDm 0 505 .eq 510 508 = true := by decide +kernel
theorem zd0_508 : zDc 0 508 509 (Int32.ofNat 0) = true := by decide +kernel
theorem zd0_509 : zD 0 509 .ireturn 1 510 = true := by decide +kernel
theorem zd0_510 : zD 0 510 (.iload 5) 2 512 = true := by decide +kernel
theorem zd0_512 : zDf 0 512 .ne 527 515 = true := by decide +kernel
theorem zd0_515 : zD 0 515 (.aload_n 3) 1 516 = true := by decide +kernel
theorem zd0_516 : zDc 0 516 517 (Int32.ofNat 0) = true := by decide +kernel
theorem zd0_517 : zD 0 517 .laload 1 518 = true := by decide +kernel
theorem zd0_518 : zD 0 518 (.iload 6) 2 520 = true := by decide +kernel
theorem zd0_520 : zD 0 520 .i2l 1 521 = true := by decide +kernel
theorem zd0_521 : zD 0 521 .lcmp 1 522 = true := by decide +kernel
theorem zd0_522 : zDf 0 522 .eq 527 525 = true := by decide +kernel
theorem zd0_525 : zDc 0 525 526 (Int32.ofNat 0) = true := by decide +kernel
theorem zd0_526 : zD 0 526 .ireturn 1 527 = true := by decide +kernel
theorem zd0_527 : zDj 0 527 1049 = true := by decide +kernel
theorem zd0_530 : zD 0 530 (.aload_n 1) 1 531 = true := by decide +kernel
theorem zd0_531 : zD 0 531 (.aload_n 0) 1 532 = true := by decide +kernel
theorem zd0_532 : zD 0 532 (.iload 4) 2 534 = true := by decide +kernel
theorem zd0_534 : zDc 0 534 535 (Int32.ofNat 1) = true := by decide +kernel
theorem zd0_535 : zD 0 535 .iadd 1 536 = true := by decide +kernel
theorem zd0_536 : zD 0 536 .iaload 1 537 = true := by decide +kernel
theorem zd0_537 : zD 0 537 (.aload_n 3) 1 538 = true := by decide +kernel
theorem zd0_538 : zDk 0 538 541 63 2 = true := by decide +kernel
theorem zd0_541 : zD 0 541 (.istore 5) 2 543 = true := by decide +kernel
theorem zd0_543 : zD 0 543 (.aload_n 2) 1 544 = true := by decide +kernel
theorem zd0_544 : zD 0 544 (.aload_n 0) 1 545 = true := by decide +kernel
theorem zd0_545 : zD 0 545 (.iload 4) 2 547 = true := by decide +kernel
theorem zd0_547 : zDc 0 547 548 (Int32.ofNat 1) = true := by decide +kernel
theorem zd0_548 : zD 0 548 .iadd 1 549 = true := by decide +kernel
theorem zd0_549 : zD 0 549 .iaload 1 550 = true := by decide +kernel
theorem zd0_550 : zDk 0 550 553 116 0 = true := by decide +kernel
theorem zd0_553 : zD 0 553 (.istore 6) 2 555 = true := by decide +kernel
theorem zd0_555 : zD 0 555 (.aload_n 2) 1 556 = true := by decide +kernel
theorem zd0_556 : zDk 0 556 559 84 0 = true := by decide +kernel
theorem zd0_559 : zD 0 559 (.iload 5) 2 561 = true := by decide +kernel
theorem zd0_561 : zDm 0 561 .eq 566 564 = true := by decide +kernel
theorem zd0_564 : zDc 0 564 565 (Int32.ofNat 0) = true := by decide +kernel
theorem zd0_565 : zD 0 565 .ireturn 1 566 = true := by decide +kernel
theorem zd0_566 : zD 0 566 (.iload 5) 2 568 = true := by decide +kernel
theorem zd0_568 : zDf 0 568 .ne 583 571 = true := by decide +kernel
theorem zd0_571 : zD 0 571 (.aload_n 3) 1 572 = true := by decide +kernel
theorem zd0_572 : zDc 0 572 573 (Int32.ofNat 0) = true := by decide +kernel
theorem zd0_573 : zD 0 573 .laload 1 574 = true := by decide +kernel
theorem zd0_574 : zD 0 574 (.iload 6) 2 576 = true := by decide +kernel
theorem zd0_576 : zD 0 576 .i2l 1 577 = true := by decide +kernel
theorem zd0_577 : zD 0 577 .lcmp 1 578 = true := by decide +kernel
theorem zd0_578 : zDf 0 578 .eq 583 581 = true := by decide +kernel
theorem zd0_581 : zDc 0 581 582 (Int32.ofNat 0) = true := by decide +kernel
theorem zd0_582 : zD 0 582 .ireturn 1 583 = true := by decide +kernel
theorem zd0_583 : zDj 0 583 1049 = true := by decide +kernel
theorem zd0_586 : zD 0 586 (.aload_n 1) 1 587 = true := by decide +kernel
theorem zd0_587 : zD 0 587 (.aload_n 0) 1 588 = true := by decide +kernel
theorem zd0_588 : zD 0 588 (.iload 4) 2 590 = true := by decide +kernel
theorem zd0_590 : zDc 0 590 591 (Int32.ofNat 1) = true := by decide +kernel
theorem zd0_591 : zD 0 591 .iadd 1 592 = true := by decide +kernel
theorem zd0_592 : zD 0 592 .iaload 1 593 = true := by decide +kernel
theorem zd0_593 : zD 0 593 (.aload_n 3) 1 594 = true := by decide +kernel
theorem zd0_594 : zDk 0 594 597 65 2 = true := by decide +kernel
theorem zd0_597 : zD 0 597 (.istore 5) 2 599 = true := by decide +kernel
theorem zd0_599 : zD 0 599 (.aload_n 2) 1 600 = true := by decide +kernel
theorem zd0_600 : zD 0 600 (.aload_n 0) 1 601 = true := by decide +kernel
theorem zd0_601 : zD 0 601 (.iload 4) 2 603 = true := by decide +kernel
theorem zd0_603 : zDc 0 603 604 (Int32.ofNat 1) = true := by decide +kernel
theorem zd0_604 : zD 0 604 .iadd 1 605 = true := by decide +kernel
theorem zd0_605 : zD 0 605 .iaload 1 606 = true := by decide +kernel
theorem zd0_606 : zDk 0 606 609 117 0 = true := by decide +kernel
theorem zd0_609 : zD 0 609 (.istore 6) 2 611 = true := by decide +kernel
theorem zd0_611 : zD 0 611 (.aload_n 2) 1 612 = true := by decide +kernel
theorem zd0_612 : zDk 0 612 615 84 0 = true := by decide +kernel
theorem zd0_615 : zD 0 615 (.iload 5) 2 617 = true := by decide +kernel
theorem zd0_617 : zDm 0 617 .eq 622 620 = true := by decide +kernel
theorem zd0_620 : zDc 0 620 621 (Int32.ofNat 0) = true := by decide +kernel
theorem zd0_621 : zD 0 621 .ireturn 1 622 = true := by decide +kernel
theorem zd0_622 : zD 0 622 (.iload 5) 2 624 = true := by decide +kernel
theorem zd0_624 : zDf 0 624 .ne 639 627 = true := by decide +kernel
theorem zd0_627 : zD 0 627 (.aload_n 3) 1 628 = true := by decide +kernel
theorem zd0_628 : zDc 0 628 629 (Int32.ofNat 0) = true := by decide +kernel
theorem zd0_629 : zD 0 629 .laload 1 630 = true := by decide +kernel
theorem zd0_630 : zD 0 630 (.iload 6) 2 632 = true := by decide +kernel
theorem zd0_632 : zD 0 632 .i2l 1 633 = true := by decide +kernel
theorem zd0_633 : zD 0 633 .lcmp 1 634 = true := by decide +kernel
theorem zd0_634 : zDf 0 634 .eq 639 637 = true := by decide +kernel
theorem zd0_637 : zDc 0 637 638 (Int32.ofNat 0) = true := by decide +kernel
theorem zd0_638 : zD 0 638 .ireturn 1 639 = true := by decide +kernel
theorem zd0_639 : zDj 0 639 1049 = true := by decide +kernel
theorem zd0_642 : zD 0 642 (.aload_n 1) 1 643 = true := by decide +kernel
theorem zd0_643 : zD 0 643 (.aload_n 0) 1 644 = true := by decide +kernel
theorem zd0_644 : zD 0 644 (.iload 4) 2 646 = true := by decide +kernel
theorem zd0_646 : zDc 0 646 647 (Int32.ofNat 1) = true := by decide +kernel
theorem zd0_647 : zD 0 647 .iadd 1 648 = true := by decide +kernel
theorem zd0_648 : zD 0 648 .iaload 1 649 = true := by decide +kernel
theorem zd0_649 : zD 0 649 (.aload_n 0) 1 650 = true := by decide +kernel
theorem zd0_650 : zD 0 650 (.iload 4) 2 652 = true := by decide +kernel
theorem zd0_652 : zDc 0 652 653 (Int32.ofNat 2) = true := by decide +kernel
theorem zd0_653 : zD 0 653 .iadd 1 654 = true := by decide +kernel
theorem zd0_654 : zD 0 654 .iaload 1 655 = true := by decide +kernel
theorem zd0_655 : zD 0 655 (.aload_n 0) 1 656 = true := by decide +kernel
theorem zd0_656 : zD 0 656 (.iload 4) 2 658 = true := by decide +kernel
theorem zd0_658 : zDc 0 658 659 (Int32.ofNat 3) = true := by decide +kernel
theorem zd0_659 : zD 0 659 .iadd 1 660 = true := by decide +kernel
theorem zd0_660 : zD 0 660 .iaload 1 661 = true := by decide +kernel
theorem zd0_661 : zD 0 661 (.aload_n 3) 1 662 = true := by decide +kernel
theorem zd0_662 : zDk 0 662 665 67 2 = true := by decide +kernel
theorem zd0_665 : zD 0 665 (.istore 5) 2 667 = true := by decide +kernel
theorem zd0_667 : zD 0 667 (.aload_n 2) 1 668 = true := by decide +kernel
theorem zd0_668 : zD 0 668 (.aload_n 0) 1 669 = true := by decide +kernel
theorem zd0_669 : zD 0 669 (.iload 4) 2 671 = true := by decide +kernel
theorem zd0_671 : zDc 0 671 672 (Int32.ofNat 1) = true := by decide +kernel
theorem zd0_672 : zD 0 672 .iadd 1 673 = true := by decide +kernel
theorem zd0_673 : zD 0 673 .iaload 1 674 = true := by decide +kernel
theorem zd0_674 : zD 0 674 (.aload_n 0) 1 675 = true := by decide +kernel
theorem zd0_675 : zD 0 675 (.iload 4) 2 677 = true := by decide +kernel
theorem zd0_677 : zDc 0 677 678 (Int32.ofNat 2) = true := by decide +kernel
theorem zd0_678 : zD 0 678 .iadd 1 679 = true := by decide +kernel
theorem zd0_679 : zD 0 679 .iaload 1 680 = true := by decide +kernel
theorem zd0_680 : zD 0 680 (.aload_n 0) 1 681 = true := by decide +kernel
theorem zd0_681 : zD 0 681 (.iload 4) 2 683 = true := by decide +kernel
theorem zd0_683 : zDc 0 683 684 (Int32.ofNat 3) = true := by decide +kernel
theorem zd0_684 : zD 0 684 .iadd 1 685 = true := by decide +kernel
theorem zd0_685 : zD 0 685 .iaload 1 686 = true := by decide +kernel
theorem zd0_686 : zDk 0 686 689 118 0 = true := by decide +kernel
theorem zd0_689 : zD 0 689 (.istore 6) 2 691 = true := by decide +kernel
theorem zd0_691 : zD 0 691 (.aload_n 2) 1 692 = true := by decide +kernel
theorem zd0_692 : zDk 0 692 695 84 0 = true := by decide +kernel
theorem zd0_695 : zD 0 695 (.iload 5) 2 697 = true := by decide +kernel
theorem zd0_697 : zDm 0 697 .eq 702 700 = true := by decide +kernel
theorem zd0_700 : zDc 0 700 701 (Int32.ofNat 0) = true := by decide +kernel
theorem zd0_701 : zD 0 701 .ireturn 1 702 = true := by decide +kernel
theorem zd0_702 : zD 0 702 (.iload 5) 2 704 = true := by decide +kernel
theorem zd0_704 : zDf 0 704 .ne 719 707 = true := by decide +kernel
theorem zd0_707 : zD 0 707 (.aload_n 3) 1 708 = true := by decide +kernel
theorem zd0_708 : zDc 0 708 709 (Int32.ofNat 0) = true := by decide +kernel
theorem zd0_709 : zD 0 709 .laload 1 710 = true := by decide +kernel
theorem zd0_710 : zD 0 710 (.iload 6) 2 712 = true := by decide +kernel
theorem zd0_712 : zD 0 712 .i2l 1 713 = true := by decide +kernel
theorem zd0_713 : zD 0 713 .lcmp 1 714 = true := by decide +kernel
theorem zd0_714 : zDf 0 714 .eq 719 717 = true := by decide +kernel
theorem zd0_717 : zDc 0 717 718 (Int32.ofNat 0) = true := by decide +kernel
theorem zd0_718 : zD 0 718 .ireturn 1 719 = true := by decide +kernel
theorem zd0_719 : zDj 0 719 1049 = true := by decide +kernel
theorem zd0_722 : zD 0 722 (.aload_n 1) 1 723 = true := by decide +kernel
theorem zd0_723 : zD 0 723 (.aload_n 0) 1 724 = true := by decide +kernel
theorem zd0_724 : zD 0 724 (.iload 4) 2 726 = true := by decide +kernel
theorem zd0_726 : zDc 0 726 727 (Int32.ofNat 1) = true := by decide +kernel
theorem zd0_727 : zD 0 727 .iadd 1 728 = true := by decide +kernel
theorem zd0_728 : zD 0 728 .iaload 1 729 = true := by decide +kernel
theorem zd0_729 : zD 0 729 (.aload_n 0) 1 730 = true := by decide +kernel
theorem zd0_730 : zD 0 730 (.iload 4) 2 732 = true := by decide +kernel
theorem zd0_732 : zDc 0 732 733 (Int32.ofNat 2) = true := by decide +kernel
theorem zd0_733 : zD 0 733 .iadd 1 734 = true := by decide +kernel
theorem zd0_734 : zD 0 734 .iaload 1 735 = true := by decide +kernel
theorem zd0_735 : zD 0 735 (.aload_n 0) 1 736 = true := by decide +kernel
theorem zd0_736 : zD 0 736 (.iload 4) 2 738 = true := by decide +kernel
theorem zd0_738 : zDc 0 738 739 (Int32.ofNat 3) = true := by decide +kernel
theorem zd0_739 : zD 0 739 .iadd 1 740 = true := by decide +kernel
theorem zd0_740 : zD 0 740 .iaload 1 741 = true := by decide +kernel
theorem zd0_741 : zD 0 741 (.aload_n 3) 1 742 = true := by decide +kernel
theorem zd0_742 : zDk 0 742 745 71 2 = true := by decide +kernel
theorem zd0_745 : zD 0 745 (.istore 5) 2 747 = true := by decide +kernel
theorem zd0_747 : zD 0 747 (.aload_n 2) 1 748 = true := by decide +kernel
theorem zd0_748 : zD 0 748 (.aload_n 0) 1 749 = true := by decide +kernel
theorem zd0_749 : zD 0 749 (.iload 4) 2 751 = true := by decide +kernel
theorem zd0_751 : zDc 0 751 752 (Int32.ofNat 1) = true := by decide +kernel
theorem zd0_752 : zD 0 752 .iadd 1 753 = true := by decide +kernel
theorem zd0_753 : zD 0 753 .iaload 1 754 = true := by decide +kernel
theorem zd0_754 : zD 0 754 (.aload_n 0) 1 755 = true := by decide +kernel
theorem zd0_755 : zD 0 755 (.iload 4) 2 757 = true := by decide +kernel
theorem zd0_757 : zDc 0 757 758 (Int32.ofNat 2) = true := by decide +kernel
theorem zd0_758 : zD 0 758 .iadd 1 759 = true := by decide +kernel
theorem zd0_759 : zD 0 759 .iaload 1 760 = true := by decide +kernel
theorem zd0_760 : zD 0 760 (.aload_n 0) 1 761 = true := by decide +kernel
theorem zd0_761 : zD 0 761 (.iload 4) 2 763 = true := by decide +kernel
theorem zd0_763 : zDc 0 763 764 (Int32.ofNat 3) = true := by decide +kernel
theorem zd0_764 : zD 0 764 .iadd 1 765 = true := by decide +kernel
theorem zd0_765 : zD 0 765 .iaload 1 766 = true := by decide +kernel
theorem zd0_766 : zDk 0 766 769 102 0 = true := by decide +kernel
theorem zd0_769 : zD 0 769 (.istore 6) 2 771 = true := by decide +kernel
theorem zd0_771 : zD 0 771 (.aload_n 2) 1 772 = true := by decide +kernel
theorem zd0_772 : zDk 0 772 775 84 0 = true := by decide +kernel
theorem zd0_775 : zD 0 775 (.iload 5) 2 777 = true := by decide +kernel
theorem zd0_777 : zDm 0 777 .eq 782 780 = true := by decide +kernel
theorem zd0_780 : zDc 0 780 781 (Int32.ofNat 0) = true := by decide +kernel
theorem zd0_781 : zD 0 781 .ireturn 1 782 = true := by decide +kernel
theorem zd0_782 : zD 0 782 (.iload 5) 2 784 = true := by decide +kernel
theorem zd0_784 : zDf 0 784 .ne 799 787 = true := by decide +kernel
theorem zd0_787 : zD 0 787 (.aload_n 3) 1 788 = true := by decide +kernel
theorem zd0_788 : zDc 0 788 789 (Int32.ofNat 0) = true := by decide +kernel
theorem zd0_789 : zD 0 789 .laload 1 790 = true := by decide +kernel
theorem zd0_790 : zD 0 790 (.iload 6) 2 792 = true := by decide +kernel
theorem zd0_792 : zD 0 792 .i2l 1 793 = true := by decide +kernel
theorem zd0_793 : zD 0 793 .lcmp 1 794 = true := by decide +kernel
theorem zd0_794 : zDf 0 794 .eq 799 797 = true := by decide +kernel
theorem zd0_797 : zDc 0 797 798 (Int32.ofNat 0) = true := by decide +kernel
theorem zd0_798 : zD 0 798 .ireturn 1 799 = true := by decide +kernel
theorem zd0_799 : zDj 0 799 1049 = true := by decide +kernel
theorem zd0_802 : zD 0 802 (.aload_n 1) 1 803 = true := by decide +kernel
theorem zd0_803 : zD 0 803 (.aload_n 0) 1 804 = true := by decide +kernel
theorem zd0_804 : zD 0 804 (.iload 4) 2 806 = true := by decide +kernel
theorem zd0_806 : zDc 0 806 807 (Int32.ofNat 1) = true := by decide +kernel
theorem zd0_807 : zD 0 807 .iadd 1 808 = true := by decide +kernel
theorem zd0_808 : zD 0 808 .iaload 1 809 = true := by decide +kernel
theorem zd0_809 : zD 0 809 (.aload_n 0) 1 810 = true := by decide +kernel
theorem zd0_810 : zD 0 810 (.iload 4) 2 812 = true := by decide +kernel
theorem zd0_812 : zDc 0 812 813 (Int32.ofNat 2) = true := by decide +kernel
theorem zd0_813 : zD 0 813 .iadd 1 814 = true := by decide +kernel
theorem zd0_814 : zD 0 814 .iaload 1 815 = true := by decide +kernel
theorem zd0_815 : zD 0 815 (.aload_n 0) 1 816 = true := by decide +kernel
theorem zd0_816 : zD 0 816 (.iload 4) 2 818 = true := by decide +kernel
theorem zd0_818 : zDc 0 818 819 (Int32.ofNat 3) = true := by decide +kernel
theorem zd0_819 : zD 0 819 .iadd 1 820 = true := by decide +kernel
theorem zd0_820 : zD 0 820 .iaload 1 821 = true := by decide +kernel
theorem zd0_821 : zD 0 821 (.aload_n 3) 1 822 = true := by decide +kernel
theorem zd0_822 : zDk 0 822 825 73 2 = true := by decide +kernel
theorem zd0_825 : zD 0 825 (.istore 5) 2 827 = true := by decide +kernel
theorem zd0_827 : zD 0 827 (.aload_n 2) 1 828 = true := by decide +kernel
theorem zd0_828 : zD 0 828 (.aload_n 0) 1 829 = true := by decide +kernel
theorem zd0_829 : zD 0 829 (.iload 4) 2 831 = true := by decide +kernel
theorem zd0_831 : zDc 0 831 832 (Int32.ofNat 1) = true := by decide +kernel
theorem zd0_832 : zD 0 832 .iadd 1 833 = true := by decide +kernel
theorem zd0_833 : zD 0 833 .iaload 1 834 = true := by decide +kernel
theorem zd0_834 : zD 0 834 (.aload_n 0) 1 835 = true := by decide +kernel
theorem zd0_835 : zD 0 835 (.iload 4) 2 837 = true := by decide +kernel
theorem zd0_837 : zDc 0 837 838 (Int32.ofNat 2) = true := by decide +kernel
theorem zd0_838 : zD 0 838 .iadd 1 839 = true := by decide +kernel
theorem zd0_839 : zD 0 839 .iaload 1 840 = true := by decide +kernel
theorem zd0_840 : zD 0 840 (.aload_n 0) 1 841 = true := by decide +kernel
theorem zd0_841 : zD 0 841 (.iload 4) 2 843 = true := by decide +kernel
theorem zd0_843 : zDc 0 843 844 (Int32.ofNat 3) = true := by decide +kernel
theorem zd0_844 : zD 0 844 .iadd 1 845 = true := by decide +kernel
theorem zd0_845 : zD 0 845 .iaload 1 846 = true := by decide +kernel
theorem zd0_846 : zDk 0 846 849 119 0 = true := by decide +kernel
theorem zd0_849 : zD 0 849 (.istore 6) 2 851 = true := by decide +kernel
theorem zd0_851 : zD 0 851 (.aload_n 2) 1 852 = true := by decide +kernel
theorem zd0_852 : zDk 0 852 855 84 0 = true := by decide +kernel
theorem zd0_855 : zD 0 855 (.iload 5) 2 857 = true := by decide +kernel
theorem zd0_857 : zDm 0 857 .eq 862 860 = true := by decide +kernel
theorem zd0_860 : zDc 0 860 861 (Int32.ofNat 0) = true := by decide +kernel
theorem zd0_861 : zD 0 861 .ireturn 1 862 = true := by decide +kernel
theorem zd0_862 : zD 0 862 (.iload 5) 2 864 = true := by decide +kernel
theorem zd0_864 : zDf 0 864 .ne 879 867 = true := by decide +kernel
theorem zd0_867 : zD 0 867 (.aload_n 3) 1 868 = true := by decide +kernel
theorem zd0_868 : zDc 0 868 869 (Int32.ofNat 0) = true := by decide +kernel
theorem zd0_869 : zD 0 869 .laload 1 870 = true := by decide +kernel
theorem zd0_870 : zD 0 870 (.iload 6) 2 872 = true := by decide +kernel
theorem zd0_872 : zD 0 872 .i2l 1 873 = true := by decide +kernel
theorem zd0_873 : zD 0 873 .lcmp 1 874 = true := by decide +kernel
theorem zd0_874 : zDf 0 874 .eq 879 877 = true := by decide +kernel
theorem zd0_877 : zDc 0 877 878 (Int32.ofNat 0) = true := by decide +kernel
theorem zd0_878 : zD 0 878 .ireturn 1 879 = true := by decide +kernel
theorem zd0_879 : zDj 0 879 1049 = true := by decide +kernel
theorem zd0_882 : zD 0 882 (.aload_n 1) 1 883 = true := by decide +kernel
theorem zd0_883 : zD 0 883 (.aload_n 0) 1 884 = true := by decide +kernel
theorem zd0_884 : zD 0 884 (.iload 4) 2 886 = true := by decide +kernel
theorem zd0_886 : zDc 0 886 887 (Int32.ofNat 1) = true := by decide +kernel
theorem zd0_887 : zD 0 887 .iadd 1 888 = true := by decide +kernel
theorem zd0_888 : zD 0 888 .iaload 1 889 = true := by decide +kernel
theorem zd0_889 : zD 0 889 (.aload_n 0) 1 890 = true := by decide +kernel
theorem zd0_890 : zD 0 890 (.iload 4) 2 892 = true := by decide +kernel
theorem zd0_892 : zDc 0 892 893 (Int32.ofNat 2) = true := by decide +kernel
theorem zd0_893 : zD 0 893 .iadd 1 894 = true := by decide +kernel
theorem zd0_894 : zD 0 894 .iaload 1 895 = true := by decide +kernel
theorem zd0_895 : zD 0 895 (.aload_n 3) 1 896 = true := by decide +kernel
theorem zd0_896 : zDk 0 896 899 75 2 = true := by decide +kernel
theorem zd0_899 : zD 0 899 (.istore 5) 2 901 = true := by decide +kernel
theorem zd0_901 : zD 0 901 (.aload_n 2) 1 902 = true := by decide +kernel
theorem zd0_902 : zD 0 902 (.aload_n 0) 1 903 = true := by decide +kernel
theorem zd0_903 : zD 0 903 (.iload 4) 2 905 = true := by decide +kernel
theorem zd0_905 : zDc 0 905 906 (Int32.ofNat 1) = true := by decide +kernel
theorem zd0_906 : zD 0 906 .iadd 1 907 = true := by decide +kernel
theorem zd0_907 : zD 0 907 .iaload 1 908 = true := by decide +kernel
theorem zd0_908 : zD 0 908 (.aload_n 0) 1 909 = true := by decide +kernel
theorem zd0_909 : zD 0 909 (.iload 4) 2 911 = true := by decide +kernel
theorem zd0_911 : zDc 0 911 912 (Int32.ofNat 2) = true := by decide +kernel
theorem zd0_912 : zD 0 912 .iadd 1 913 = true := by decide +kernel
theorem zd0_913 : zD 0 913 .iaload 1 914 = true := by decide +kernel
theorem zd0_914 : zDk 0 914 917 110 0 = true := by decide +kernel
theorem zd0_917 : zD 0 917 (.istore 6) 2 919 = true := by decide +kernel
theorem zd0_919 : zD 0 919 (.aload_n 2) 1 920 = true := by decide +kernel
theorem zd0_920 : zDk 0 920 923 84 0 = true := by decide +kernel
theorem zd0_923 : zD 0 923 (.iload 5) 2 925 = true := by decide +kernel
theorem zd0_925 : zDm 0 925 .eq 930 928 = true := by decide +kernel
theorem zd0_928 : zDc 0 928 929 (Int32.ofNat 0) = true := by decide +kernel
theorem zd0_929 : zD 0 929 .ireturn 1 930 = true := by decide +kernel
theorem zd0_930 : zD 0 930 (.iload 5) 2 932 = true := by decide +kernel
theorem zd0_932 : zDf 0 932 .ne 954 935 = true := by decide +kernel
theorem zd0_935 : zD 0 935 (.aload_n 3) 1 936 = true := by decide +kernel
theorem zd0_936 : zDc 0 936 937 (Int32.ofNat 0) = true := by decide +kernel
theorem zd0_937 : zD 0 937 .laload 1 938 = true := by decide +kernel
theorem zd0_938 : zD 0 938 (.iload 6) 2 940 = true := by decide +kernel
theorem zd0_940 : zDf 0 940 .eq 947 943 = true := by decide +kernel
theorem zd0_943 : zDC 0 943 944 (1) = true := by decide +kernel
theorem zd0_944 : zDj 0 944 948 = true := by decide +kernel
theorem zd0_947 : zDC 0 947 948 (0) = true := by decide +kernel
theorem zd0_948 : zD 0 948 .lcmp 1 949 = true := by decide +kernel
theorem zd0_949 : zDf 0 949 .eq 954 952 = true := by decide +kernel
theorem zd0_952 : zDc 0 952 953 (Int32.ofNat 0) = true := by decide +kernel
theorem zd0_953 : zD 0 953 .ireturn 1 954 = true := by decide +kernel
theorem zd0_954 : zDj 0 954 1049 = true := by decide +kernel
theorem zd0_957 : zD 0 957 (.aload_n 1) 1 958 = true := by decide +kernel
theorem zd0_958 : zD 0 958 (.aload_n 0) 1 959 = true := by decide +kernel
theorem zd0_959 : zD 0 959 (.iload 4) 2 961 = true := by decide +kernel
theorem zd0_961 : zDc 0 961 962 (Int32.ofNat 1) = true := by decide +kernel
theorem zd0_962 : zD 0 962 .iadd 1 963 = true := by decide +kernel
theorem zd0_963 : zD 0 963 .iaload 1 964 = true := by decide +kernel
theorem zd0_964 : zD 0 964 (.aload_n 0) 1 965 = true := by decide +kernel
theorem zd0_965 : zD 0 965 (.iload 4) 2 967 = true := by decide +kernel
theorem zd0_967 : zDc 0 967 968 (Int32.ofNat 2) = true := by decide +kernel
theorem zd0_968 : zD 0 968 .iadd 1 969 = true := by decide +kernel
theorem zd0_969 : zD 0 969 .iaload 1 970 = true := by decide +kernel
theorem zd0_970 : zD 0 970 (.aload_n 3) 1 971 = true := by decide +kernel
theorem zd0_971 : zDk 0 971 974 78 2 = true := by decide +kernel
theorem zd0_974 : zD 0 974 (.istore 5) 2 976 = true := by decide +kernel
theorem zd0_976 : zD 0 976 (.aload_n 2) 1 977 = true := by decide +kernel
theorem zd0_977 : zD 0 977 (.aload_n 0) 1 978 = true := by decide +kernel
theorem zd0_978 : zD 0 978 (.iload 4) 2 980 = true := by decide +kernel
theorem zd0_980 : zDc 0 980 981 (Int32.ofNat 1) = true := by decide +kernel
theorem zd0_981 : zD 0 981 .iadd 1 982 = true := by decide +kernel
theorem zd0_982 : zD 0 982 .iaload 1 983 = true := by decide +kernel
theorem zd0_983 : zD 0 983 (.aload_n 0) 1 984 = true := by decide +kernel
theorem zd0_984 : zD 0 984 (.iload 4) 2 986 = true := by decide +kernel
theorem zd0_986 : zDc 0 986 987 (Int32.ofNat 2) = true := by decide +kernel
theorem zd0_987 : zD 0 987 .iadd 1 988 = true := by decide +kernel
theorem zd0_988 : zD 0 988 .iaload 1 989 = true := by decide +kernel
theorem zd0_989 : zDk 0 989 992 121 0 = true := by decide +kernel
theorem zd0_992 : zD 0 992 (.istore 6) 2 994 = true := by decide +kernel
theorem zd0_994 : zD 0 994 (.aload_n 2) 1 995 = true := by decide +kernel
theorem zd0_995 : zDk 0 995 998 84 0 = true := by decide +kernel
theorem zd0_998 : zD 0 998 (.iload 5) 2 1000 = true := by decide +kernel
theorem zd0_1000 : zDm 0 1000 .eq 1005 1003 = true := by decide +kernel
theorem zd0_1003 : zDc 0 1003 1004 (Int32.ofNat 0) = true := by decide +kernel
theorem zd0_1004 : zD 0 1004 .ireturn 1 1005 = true := by decide +kernel
theorem zd0_1005 : zD 0 1005 (.iload 5) 2 1007 = true := by decide +kernel
theorem zd0_1007 : zDf 0 1007 .ne 1022 1010 = true := by decide +kernel
theorem zd0_1010 : zD 0 1010 (.aload_n 3) 1 1011 = true := by decide +kernel
theorem zd0_1011 : zDc 0 1011 1012 (Int32.ofNat 0) = true := by decide +kernel
theorem zd0_1012 : zD 0 1012 .laload 1 1013 = true := by decide +kernel
theorem zd0_1013 : zD 0 1013 (.iload 6) 2 1015 = true := by decide +kernel
theorem zd0_1015 : zD 0 1015 .i2l 1 1016 = true := by decide +kernel
theorem zd0_1016 : zD 0 1016 .lcmp 1 1017 = true := by decide +kernel
theorem zd0_1017 : zDf 0 1017 .eq 1022 1020 = true := by decide +kernel
theorem zd0_1020 : zDc 0 1020 1021 (Int32.ofNat 0) = true := by decide +kernel
theorem zd0_1021 : zD 0 1021 .ireturn 1 1022 = true := by decide +kernel
theorem zd0_1022 : zDj 0 1022 1049 = true := by decide +kernel
theorem zd0_1025 : zD 0 1025 (.aload_n 1) 1 1026 = true := by decide +kernel
theorem zd0_1026 : zDk 0 1026 1029 36 0 = true := by decide +kernel
theorem zd0_1029 : zD 0 1029 (.aload_n 2) 1 1030 = true := by decide +kernel
theorem zd0_1030 : zDk 0 1030 1033 99 0 = true := by decide +kernel
theorem zd0_1033 : zDm 0 1033 .eq 1049 1036 = true := by decide +kernel
theorem zd0_1036 : zDc 0 1036 1037 (Int32.ofNat 0) = true := by decide +kernel
theorem zd0_1037 : zD 0 1037 .ireturn 1 1038 = true := by decide +kernel
theorem zd0_1038 : zD 0 1038 (.aload_n 1) 1 1039 = true := by decide +kernel
theorem zd0_1039 : zDk 0 1039 1042 37 0 = true := by decide +kernel
theorem zd0_1042 : zD 0 1042 (.aload_n 2) 1 1043 = true := by decide +kernel
theorem zd0_1043 : zDk 0 1043 1046 109 0 = true := by decide +kernel
theorem zd0_1046 : zDj 0 1046 1049 = true := by decide +kernel
theorem zd0_1049 : zDi 0 1049 1052 4 (Int32.ofNat 4) = true := by decide +kernel
theorem zd0_1052 : zDj 0 1052 23 = true := by decide +kernel
theorem zd0_1055 : zDc 0 1055 1056 (Int32.ofNat 1) = true := by decide +kernel
theorem zd0_1056 : zD 0 1056 .ireturn 1 1057 = true := by decide +kernel
