/-! The instructions of the class, read off its code -/
theorem zd1_0 : zD 1 0 (.aload_n 0) 1 1 = true := by decide +kernel
theorem zd1_1 : zDo 1 1 4 = true := by decide +kernel
theorem zd1_4 : zD 1 4 (.aload_n 0) 1 5 = true := by decide +kernel
theorem zd1_5 : zDw 1 5 8 1 = true := by decide +kernel
theorem zd1_8 : zD 1 8 .dup 1 9 = true := by decide +kernel
theorem zd1_9 : zDk 1 9 12 2 1 = true := by decide +kernel
theorem zd1_12 : zDp 1 12 15 0 0 (.object "ReleaseLeaves$Digester") = true := by decide +kernel
theorem zd1_15 : zD 1 15 (.aload_n 0) 1 16 = true := by decide +kernel
theorem zd1_16 : zDc 1 16 18 (Int32.ofNat 11) = true := by decide +kernel
theorem zd1_18 : zDa 1 18 21 "ReleaseLeaves$Release" = true := by decide +kernel
theorem zd1_21 : zDp 1 21 24 0 1 (.array (.object "ReleaseLeaves$Release")) = true := by decide +kernel
theorem zd1_24 : zDc 1 24 25 (Int32.ofNat 0) = true := by decide +kernel
theorem zd1_25 : zD 1 25 (.istore_n 1) 1 26 = true := by decide +kernel
theorem zd1_26 : zD 1 26 (.iload_n 1) 1 27 = true := by decide +kernel
theorem zd1_27 : zD 1 27 (.aload_n 0) 1 28 = true := by decide +kernel
theorem zd1_28 : zDg 1 28 31 0 1 (.array (.object "ReleaseLeaves$Release")) = true := by decide +kernel
theorem zd1_31 : zD 1 31 .arraylength 1 32 = true := by decide +kernel
theorem zd1_32 : zDm 1 32 .ge 54 35 = true := by decide +kernel
theorem zd1_35 : zD 1 35 (.aload_n 0) 1 36 = true := by decide +kernel
theorem zd1_36 : zDg 1 36 39 0 1 (.array (.object "ReleaseLeaves$Release")) = true := by decide +kernel
theorem zd1_39 : zD 1 39 (.iload_n 1) 1 40 = true := by decide +kernel
theorem zd1_40 : zDw 1 40 43 2 = true := by decide +kernel
theorem zd1_43 : zD 1 43 .dup 1 44 = true := by decide +kernel
theorem zd1_44 : zDk 1 44 47 3 1 = true := by decide +kernel
theorem zd1_47 : zD 1 47 .aastore 1 48 = true := by decide +kernel
theorem zd1_48 : zDi 1 48 51 1 (Int32.ofNat 1) = true := by decide +kernel
theorem zd1_51 : zDj 1 51 26 = true := by decide +kernel
theorem zd1_54 : zD 1 54 (.aload_n 0) 1 55 = true := by decide +kernel
theorem zd1_55 : zDc 1 55 57 (Int32.ofNat 11) = true := by decide +kernel
theorem zd1_57 : zDc 1 57 59 (Int32.ofNat 32) = true := by decide +kernel
theorem zd1_59 : zDu 1 59 63 = true := by decide +kernel
theorem zd1_63 : zDp 1 63 66 0 3 (.array (.array .int)) = true := by decide +kernel
theorem zd1_66 : zD 1 66 (.aload_n 0) 1 67 = true := by decide +kernel
theorem zd1_67 : zDg 1 67 70 0 0 (.object "ReleaseLeaves$Digester") = true := by decide +kernel
theorem zd1_70 : zDk 1 70 73 6 0 = true := by decide +kernel
theorem zd1_73 : zD 1 73 (.aload_n 0) 1 74 = true := by decide +kernel
theorem zd1_74 : zDg 1 74 77 0 0 (.object "ReleaseLeaves$Digester") = true := by decide +kernel
theorem zd1_77 : zD 1 77 (.aload_n 0) 1 78 = true := by decide +kernel
theorem zd1_78 : zDg 1 78 81 0 3 (.array (.array .int)) = true := by decide +kernel
theorem zd1_81 : zDc 1 81 82 (Int32.ofNat 0) = true := by decide +kernel
theorem zd1_82 : zD 1 82 .aaload 1 83 = true := by decide +kernel
theorem zd1_83 : zDk 1 83 86 7 0 = true := by decide +kernel
theorem zd1_86 : zD 1 86 (.aload_n 0) 1 87 = true := by decide +kernel
theorem zd1_87 : zDc 1 87 89 (Int32.ofNat 60) = true := by decide +kernel
theorem zd1_89 : zD 1 89 (.newarray .int) 2 91 = true := by decide +kernel
theorem zd1_91 : zDp 1 91 94 0 5 (.array .int) = true := by decide +kernel
theorem zd1_94 : zD 1 94 (.aload_n 0) 1 95 = true := by decide +kernel
theorem zd1_95 : zDw 1 95 98 5 = true := by decide +kernel
theorem zd1_98 : zD 1 98 .dup 1 99 = true := by decide +kernel
theorem zd1_99 : zDk 1 99 102 12 1 = true := by decide +kernel
theorem zd1_102 : zDp 1 102 105 0 7 (.object "ReleaseLeaves$EventLog") = true := by decide +kernel
theorem zd1_105 : zD 1 105 (.aload_n 0) 1 106 = true := by decide +kernel
theorem zd1_106 : zDw 1 106 109 6 = true := by decide +kernel
theorem zd1_109 : zD 1 109 .dup 1 110 = true := by decide +kernel
theorem zd1_110 : zDk 1 110 113 13 1 = true := by decide +kernel
theorem zd1_113 : zDp 1 113 116 0 8 (.object "ReleaseLeaves$Claim") = true := by decide +kernel
theorem zd1_116 : zD 1 116 (.aload_n 0) 1 117 = true := by decide +kernel
theorem zd1_117 : zDc 1 117 119 (Int32.ofNat 32) = true := by decide +kernel
theorem zd1_119 : zD 1 119 (.newarray .int) 2 121 = true := by decide +kernel
theorem zd1_121 : zDp 1 121 124 0 9 (.array .int) = true := by decide +kernel
theorem zd1_124 : zD 1 124 .return_ 1 125 = true := by decide +kernel
theorem zd2_0 : zD 2 0 (.aload_n 0) 1 1 = true := by decide +kernel
theorem zd2_1 : zDo 2 1 4 = true := by decide +kernel
theorem zd2_4 : zD 2 4 (.aload_n 0) 1 5 = true := by decide +kernel
theorem zd2_5 : zDc 2 5 7 (Int32.ofNat 8) = true := by decide +kernel
theorem zd2_7 : zD 2 7 (.newarray .int) 2 9 = true := by decide +kernel
theorem zd2_9 : zDp 2 9 12 1 0 (.array .int) = true := by decide +kernel
theorem zd2_12 : zD 2 12 (.aload_n 0) 1 13 = true := by decide +kernel
theorem zd2_13 : zDs 2 13 16 2 = true := by decide +kernel
theorem zd2_16 : zD 2 16 .arraylength 1 17 = true := by decide +kernel
theorem zd2_17 : zD 2 17 (.newarray .int) 2 19 = true := by decide +kernel
theorem zd2_19 : zDp 2 19 22 1 1 (.array .int) = true := by decide +kernel
theorem zd2_22 : zD 2 22 .return_ 1 23 = true := by decide +kernel
theorem zd3_0 : zD 3 0 (.aload_n 0) 1 1 = true := by decide +kernel
theorem zd3_1 : zDo 3 1 4 = true := by decide +kernel
theorem zd3_4 : zD 3 4 (.aload_n 0) 1 5 = true := by decide +kernel
theorem zd3_5 : zDc 3 5 7 (Int32.ofNat 8) = true := by decide +kernel
theorem zd3_7 : zDa 3 7 10 "ReleaseLeaves$StoredFile" = true := by decide +kernel
theorem zd3_10 : zDp 3 10 13 2 0 (.array (.object "ReleaseLeaves$StoredFile")) = true := by decide +kernel
theorem zd3_13 : zD 3 13 (.aload_n 0) 1 14 = true := by decide +kernel
theorem zd3_14 : zDw 3 14 17 3 = true := by decide +kernel
theorem zd3_17 : zD 3 17 .dup 1 18 = true := by decide +kernel
theorem zd3_18 : zDk 3 18 21 4 1 = true := by decide +kernel
theorem zd3_21 : zDp 3 21 24 2 2 (.object "ReleaseLeaves$Tree") = true := by decide +kernel
theorem zd3_24 : zD 3 24 (.aload_n 0) 1 25 = true := by decide +kernel
theorem zd3_25 : zDc 3 25 27 (Int32.ofNat 16) = true := by decide +kernel
theorem zd3_27 : zD 3 27 (.newarray .int) 2 29 = true := by decide +kernel
theorem zd3_29 : zDp 3 29 32 2 3 (.array .int) = true := by decide +kernel
theorem zd3_32 : zDc 3 32 33 (Int32.ofNat 0) = true := by decide +kernel
theorem zd3_33 : zD 3 33 (.istore_n 1) 1 34 = true := by decide +kernel
theorem zd3_34 : zD 3 34 (.iload_n 1) 1 35 = true := by decide +kernel
theorem zd3_35 : zD 3 35 (.aload_n 0) 1 36 = true := by decide +kernel
theorem zd3_36 : zDg 3 36 39 2 0 (.array (.object "ReleaseLeaves$StoredFile")) = true := by decide +kernel
theorem zd3_39 : zD 3 39 .arraylength 1 40 = true := by decide +kernel
theorem zd3_40 : zDm 3 40 .ge 62 43 = true := by decide +kernel
theorem zd3_43 : zD 3 43 (.aload_n 0) 1 44 = true := by decide +kernel
theorem zd3_44 : zDg 3 44 47 2 0 (.array (.object "ReleaseLeaves$StoredFile")) = true := by decide +kernel
theorem zd3_47 : zD 3 47 (.iload_n 1) 1 48 = true := by decide +kernel
theorem zd3_48 : zDw 3 48 51 4 = true := by decide +kernel
theorem zd3_51 : zD 3 51 .dup 1 52 = true := by decide +kernel
theorem zd3_52 : zDk 3 52 55 5 1 = true := by decide +kernel
theorem zd3_55 : zD 3 55 .aastore 1 56 = true := by decide +kernel
theorem zd3_56 : zDi 3 56 59 1 (Int32.ofNat 1) = true := by decide +kernel
theorem zd3_59 : zDj 3 59 34 = true := by decide +kernel
theorem zd3_62 : zDc 3 62 63 (Int32.ofNat 0) = true := by decide +kernel
theorem zd3_63 : zD 3 63 (.istore_n 1) 1 64 = true := by decide +kernel
theorem zd3_64 : zD 3 64 (.iload_n 1) 1 65 = true := by decide +kernel
theorem zd3_65 : zD 3 65 (.aload_n 0) 1 66 = true := by decide +kernel
theorem zd3_66 : zDg 3 66 69 2 3 (.array .int) = true := by decide +kernel
theorem zd3_69 : zD 3 69 .arraylength 1 70 = true := by decide +kernel
theorem zd3_70 : zDm 3 70 .ge 86 73 = true := by decide +kernel
theorem zd3_73 : zD 3 73 (.aload_n 0) 1 74 = true := by decide +kernel
theorem zd3_74 : zDg 3 74 77 2 3 (.array .int) = true := by decide +kernel
theorem zd3_77 : zD 3 77 (.iload_n 1) 1 78 = true := by decide +kernel
theorem zd3_78 : zDc 3 78 79 (-1) = true := by decide +kernel
theorem zd3_79 : zD 3 79 .iastore 1 80 = true := by decide +kernel
theorem zd3_80 : zDi 3 80 83 1 (Int32.ofNat 1) = true := by decide +kernel
theorem zd3_83 : zDj 3 83 64 = true := by decide +kernel
theorem zd3_86 : zD 3 86 .return_ 1 87 = true := by decide +kernel
theorem zd4_0 : zD 4 0 (.aload_n 0) 1 1 = true := by decide +kernel
theorem zd4_1 : zDo 4 1 4 = true := by decide +kernel
theorem zd4_4 : zD 4 4 (.aload_n 0) 1 5 = true := by decide +kernel
theorem zd4_5 : zDc 4 5 7 (Int32.ofNat 15) = true := by decide +kernel
theorem zd4_7 : zDc 4 7 9 (Int32.ofNat 32) = true := by decide +kernel
theorem zd4_9 : zDu 4 9 13 = true := by decide +kernel
theorem zd4_13 : zDp 4 13 16 3 0 (.array (.array .int)) = true := by decide +kernel
theorem zd4_16 : zD 4 16 (.aload_n 0) 1 17 = true := by decide +kernel
theorem zd4_17 : zDc 4 17 18 (Int32.ofNat 4) = true := by decide +kernel
theorem zd4_18 : zD 4 18 (.newarray .int) 2 20 = true := by decide +kernel
theorem zd4_20 : zDp 4 20 23 3 1 (.array .int) = true := by decide +kernel
theorem zd4_23 : zD 4 23 .return_ 1 24 = true := by decide +kernel
theorem zd5_0 : zD 5 0 (.aload_n 0) 1 1 = true := by decide +kernel
theorem zd5_1 : zDo 5 1 4 = true := by decide +kernel
theorem zd5_4 : zD 5 4 (.aload_n 0) 1 5 = true := by decide +kernel
theorem zd5_5 : zDc 5 5 7 (Int32.ofNat 64) = true := by decide +kernel
theorem zd5_7 : zD 5 7 (.newarray .int) 2 9 = true := by decide +kernel
theorem zd5_9 : zDp 5 9 12 4 1 (.array .int) = true := by decide +kernel
theorem zd5_12 : zD 5 12 .return_ 1 13 = true := by decide +kernel
theorem zd6_0 : zDs 6 0 3 1 = true := by decide +kernel
theorem zd6_3 : zDc 6 3 4 (Int32.ofNat 0) = true := by decide +kernel
theorem zd6_4 : zD 6 4 (.aload_n 0) 1 5 = true := by decide +kernel
theorem zd6_5 : zDg 6 5 8 1 0 (.array .int) = true := by decide +kernel
theorem zd6_8 : zDc 6 8 9 (Int32.ofNat 0) = true := by decide +kernel
theorem zd6_9 : zDc 6 9 11 (Int32.ofNat 8) = true := by decide +kernel
theorem zd6_11 : zDy 6 11 14 = true := by decide +kernel
theorem zd6_14 : zD 6 14 (.aload_n 0) 1 15 = true := by decide +kernel
theorem zd6_15 : zDc 6 15 16 (Int32.ofNat 0) = true := by decide +kernel
theorem zd6_16 : zDp 6 16 19 1 2 (.int) = true := by decide +kernel
theorem zd6_19 : zD 6 19 .return_ 1 20 = true := by decide +kernel
theorem zd7_0 : zD 7 0 (.aload_n 0) 1 1 = true := by decide +kernel
theorem zd7_1 : zDg 7 1 4 1 2 (.int) = true := by decide +kernel
theorem zd7_4 : zDc 7 4 6 (Int32.ofNat 8) = true := by decide +kernel
theorem zd7_6 : zD 7 6 .imul 1 7 = true := by decide +kernel
theorem zd7_7 : zD 7 7 (.istore_n 2) 1 8 = true := by decide +kernel
theorem zd7_8 : zD 7 8 (.aload_n 0) 1 9 = true := by decide +kernel
theorem zd7_9 : zDc 7 9 12 (Int32.ofNat 128) = true := by decide +kernel
theorem zd7_12 : zDk 7 12 15 8 0 = true := by decide +kernel
theorem zd7_15 : zDc 7 15 17 (Int32.ofNat 56) = true := by decide +kernel
theorem zd7_17 : zD 7 17 (.aload_n 0) 1 18 = true := by decide +kernel
theorem zd7_18 : zDg 7 18 21 1 2 (.int) = true := by decide +kernel
theorem zd7_21 : zD 7 21 .isub 1 22 = true := by decide +kernel
theorem zd7_22 : zDc 7 22 24 (Int32.ofNat 63) = true := by decide +kernel
theorem zd7_24 : zD 7 24 .iand 1 25 = true := by decide +kernel
theorem zd7_25 : zD 7 25 (.istore_n 3) 1 26 = true := by decide +kernel
theorem zd7_26 : zDc 7 26 27 (Int32.ofNat 0) = true := by decide +kernel
theorem zd7_27 : zD 7 27 (.istore 4) 2 29 = true := by decide +kernel
theorem zd7_29 : zD 7 29 (.iload 4) 2 31 = true := by decide +kernel
theorem zd7_31 : zD 7 31 (.iload_n 3) 1 32 = true := by decide +kernel
theorem zd7_32 : zDc 7 32 33 (Int32.ofNat 4) = true := by decide +kernel
theorem zd7_33 : zD 7 33 .iadd 1 34 = true := by decide +kernel
theorem zd7_34 : zDm 7 34 .ge 48 37 = true := by decide +kernel
theorem zd7_37 : zD 7 37 (.aload_n 0) 1 38 = true := by decide +kernel
theorem zd7_38 : zDc 7 38 39 (Int32.ofNat 0) = true := by decide +kernel
theorem zd7_39 : zDk 7 39 42 8 0 = true := by decide +kernel
theorem zd7_42 : zDi 7 42 45 4 (Int32.ofNat 1) = true := by decide +kernel
theorem zd7_45 : zDj 7 45 29 = true := by decide +kernel
theorem zd7_48 : zD 7 48 (.aload_n 0) 1 49 = true := by decide +kernel
theorem zd7_49 : zD 7 49 (.iload_n 2) 1 50 = true := by decide +kernel
theorem zd7_50 : zDc 7 50 52 (Int32.ofNat 24) = true := by decide +kernel
theorem zd7_52 : zD 7 52 .iushr 1 53 = true := by decide +kernel
theorem zd7_53 : zDk 7 53 56 8 0 = true := by decide +kernel
theorem zd7_56 : zD 7 56 (.aload_n 0) 1 57 = true := by decide +kernel
theorem zd7_57 : zD 7 57 (.iload_n 2) 1 58 = true := by decide +kernel
theorem zd7_58 : zDc 7 58 60 (Int32.ofNat 16) = true := by decide +kernel
theorem zd7_60 : zD 7 60 .iushr 1 61 = true := by decide +kernel
theorem zd7_61 : zDk 7 61 64 8 0 = true := by decide +kernel
theorem zd7_64 : zD 7 64 (.aload_n 0) 1 65 = true := by decide +kernel
theorem zd7_65 : zD 7 65 (.iload_n 2) 1 66 = true := by decide +kernel
theorem zd7_66 : zDc 7 66 68 (Int32.ofNat 8) = true := by decide +kernel
theorem zd7_68 : zD 7 68 .iushr 1 69 = true := by decide +kernel
theorem zd7_69 : zDk 7 69 72 8 0 = true := by decide +kernel
theorem zd7_72 : zD 7 72 (.aload_n 0) 1 73 = true := by decide +kernel
theorem zd7_73 : zD 7 73 (.iload_n 2) 1 74 = true := by decide +kernel
theorem zd7_74 : zDk 7 74 77 8 0 = true := by decide +kernel
theorem zd7_77 : zDc 7 77 78 (Int32.ofNat 0) = true := by decide +kernel
theorem zd7_78 : zD 7 78 (.istore 4) 2 80 = true := by decide +kernel
theorem zd7_80 : zD 7 80 (.iload 4) 2 82 = true := by decide +kernel
theorem zd7_82 : zDc 7 82 84 (Int32.ofNat 32) = true := by decide +kernel
theorem zd7_84 : zDm 7 84 .ge 128 87 = true := by decide +kernel
theorem zd7_87 : zD 7 87 (.iload 4) 2 89 = true := by decide +kernel
theorem zd7_89 : zD 7 89 (.aload_n 1) 1 90 = true := by decide +kernel
theorem zd7_90 : zD 7 90 .arraylength 1 91 = true := by decide +kernel
theorem zd7_91 : zDm 7 91 .ge 128 94 = true := by decide +kernel
theorem zd7_94 : zD 7 94 (.aload_n 1) 1 95 = true := by decide +kernel
theorem zd7_95 : zD 7 95 (.iload 4) 2 97 = true := by decide +kernel
theorem zd7_97 : zD 7 97 (.aload_n 0) 1 98 = true := by decide +kernel
theorem zd7_98 : zDg 7 98 101 1 0 (.array .int) = true := by decide +kernel
theorem zd7_101 : zD 7 101 (.iload 4) 2 103 = true := by decide +kernel
theorem zd7_103 : zDc 7 103 104 (Int32.ofNat 2) = true := by decide +kernel
theorem zd7_104 : zD 7 104 .ishr 1 105 = true := by decide +kernel
theorem zd7_105 : zD 7 105 .iaload 1 106 = true := by decide +kernel
theorem zd7_106 : zDc 7 106 108 (Int32.ofNat 24) = true := by decide +kernel
theorem zd7_108 : zDc 7 108 110 (Int32.ofNat 8) = true := by decide +kernel
theorem zd7_110 : zD 7 110 (.iload 4) 2 112 = true := by decide +kernel
theorem zd7_112 : zDc 7 112 113 (Int32.ofNat 3) = true := by decide +kernel
theorem zd7_113 : zD 7 113 .iand 1 114 = true := by decide +kernel
theorem zd7_114 : zD 7 114 .imul 1 115 = true := by decide +kernel
theorem zd7_115 : zD 7 115 .isub 1 116 = true := by decide +kernel
theorem zd7_116 : zD 7 116 .iushr 1 117 = true := by decide +kernel
theorem zd7_117 : zDc 7 117 120 (Int32.ofNat 255) = true := by decide +kernel
theorem zd7_120 : zD 7 120 .iand 1 121 = true := by decide +kernel
theorem zd7_121 : zD 7 121 .iastore 1 122 = true := by decide +kernel
theorem zd7_122 : zDi 7 122 125 4 (Int32.ofNat 1) = true := by decide +kernel
theorem zd7_125 : zDj 7 125 80 = true := by decide +kernel
theorem zd7_128 : zD 7 128 .return_ 1 129 = true := by decide +kernel
theorem zd8_0 : zD 8 0 (.aload_n 0) 1 1 = true := by decide +kernel
theorem zd8_1 : zDg 8 1 4 1 2 (.int) = true := by decide +kernel
theorem zd8_4 : zDc 8 4 6 (Int32.ofNat 63) = true := by decide +kernel
theorem zd8_6 : zD 8 6 .iand 1 7 = true := by decide +kernel
theorem zd8_7 : zD 8 7 (.istore_n 2) 1 8 = true := by decide +kernel
theorem zd8_8 : zD 8 8 (.iload_n 2) 1 9 = true := by decide +kernel
theorem zd8_9 : zDc 8 9 10 (Int32.ofNat 2) = true := by decide +kernel
theorem zd8_10 : zD 8 10 .ishr 1 11 = true := by decide +kernel
theorem zd8_11 : zD 8 11 (.istore_n 3) 1 12 = true := by decide +kernel
theorem zd8_12 : zD 8 12 (.aload_n 0) 1 13 = true := by decide +kernel
theorem zd8_13 : zDg 8 13 16 1 1 (.array .int) = true := by decide +kernel
theorem zd8_16 : zD 8 16 (.iload_n 3) 1 17 = true := by decide +kernel
theorem zd8_17 : zD 8 17 (.aload_n 0) 1 18 = true := by decide +kernel
theorem zd8_18 : zDg 8 18 21 1 1 (.array .int) = true := by decide +kernel
theorem zd8_21 : zD 8 21 (.iload_n 3) 1 22 = true := by decide +kernel
theorem zd8_22 : zD 8 22 .iaload 1 23 = true := by decide +kernel
theorem zd8_23 : zDc 8 23 25 (Int32.ofNat 8) = true := by decide +kernel
theorem zd8_25 : zD 8 25 .ishl 1 26 = true := by decide +kernel
theorem zd8_26 : zD 8 26 (.iload_n 1) 1 27 = true := by decide +kernel
theorem zd8_27 : zDc 8 27 30 (Int32.ofNat 255) = true := by decide +kernel
theorem zd8_30 : zD 8 30 .iand 1 31 = true := by decide +kernel
theorem zd8_31 : zD 8 31 .ior 1 32 = true := by decide +kernel
theorem zd8_32 : zD 8 32 .iastore 1 33 = true := by decide +kernel
theorem zd8_33 : zD 8 33 (.aload_n 0) 1 34 = true := by decide +kernel
theorem zd8_34 : zD 8 34 .dup 1 35 = true := by decide +kernel
theorem zd8_35 : zDg 8 35 38 1 2 (.int) = true := by decide +kernel
theorem zd8_38 : zDc 8 38 39 (Int32.ofNat 1) = true := by decide +kernel
theorem zd8_39 : zD 8 39 .iadd 1 40 = true := by decide +kernel
theorem zd8_40 : zDp 8 40 43 1 2 (.int) = true := by decide +kernel
theorem zd8_43 : zD 8 43 (.iload_n 2) 1 44 = true := by decide +kernel
theorem zd8_44 : zDc 8 44 46 (Int32.ofNat 63) = true := by decide +kernel
theorem zd8_46 : zDm 8 46 .ne 57 49 = true := by decide +kernel
theorem zd8_49 : zD 8 49 (.aload_n 0) 1 50 = true := by decide +kernel
theorem zd8_50 : zDk 8 50 53 9 0 = true := by decide +kernel
theorem zd8_53 : zD 8 53 (.aload_n 0) 1 54 = true := by decide +kernel
theorem zd8_54 : zDk 8 54 57 11 0 = true := by decide +kernel
theorem zd8_57 : zD 8 57 .return_ 1 58 = true := by decide +kernel
theorem zd9_0 : zDc 9 0 2 (Int32.ofNat 16) = true := by decide +kernel
theorem zd9_2 : zD 9 2 (.istore_n 1) 1 3 = true := by decide +kernel
theorem zd9_3 : zD 9 3 (.iload_n 1) 1 4 = true := by decide +kernel
theorem zd9_4 : zD 9 4 (.aload_n 0) 1 5 = true := by decide +kernel
theorem zd9_5 : zDg 9 5 8 1 1 (.array .int) = true := by decide +kernel
theorem zd9_8 : zD 9 8 .arraylength 1 9 = true := by decide +kernel
theorem zd9_9 : zDm 9 9 .ge 107 12 = true := by decide +kernel
theorem zd9_12 : zD 9 12 (.aload_n 0) 1 13 = true := by decide +kernel
theorem zd9_13 : zDg 9 13 16 1 1 (.array .int) = true := by decide +kernel
theorem zd9_16 : zD 9 16 (.iload_n 1) 1 17 = true := by decide +kernel
theorem zd9_17 : zDc 9 17 19 (Int32.ofNat 15) = true := by decide +kernel
theorem zd9_19 : zD 9 19 .isub 1 20 = true := by decide +kernel
theorem zd9_20 : zD 9 20 .iaload 1 21 = true := by decide +kernel
theorem zd9_21 : zD 9 21 (.istore_n 2) 1 22 = true := by decide +kernel
theorem zd9_22 : zD 9 22 (.aload_n 0) 1 23 = true := by decide +kernel
theorem zd9_23 : zDg 9 23 26 1 1 (.array .int) = true := by decide +kernel
theorem zd9_26 : zD 9 26 (.iload_n 1) 1 27 = true := by decide +kernel
theorem zd9_27 : zDc 9 27 28 (Int32.ofNat 2) = true := by decide +kernel
theorem zd9_28 : zD 9 28 .isub 1 29 = true := by decide +kernel
theorem zd9_29 : zD 9 29 .iaload 1 30 = true := by decide +kernel
theorem zd9_30 : zD 9 30 (.istore_n 3) 1 31 = true := by decide +kernel
theorem zd9_31 : zD 9 31 (.iload_n 2) 1 32 = true := by decide +kernel
theorem zd9_32 : zDc 9 32 34 (Int32.ofNat 7) = true := by decide +kernel
theorem zd9_34 : zDk 9 34 37 10 2 = true := by decide +kernel
theorem zd9_37 : zD 9 37 (.iload_n 2) 1 38 = true := by decide +kernel
theorem zd9_38 : zDc 9 38 40 (Int32.ofNat 18) = true := by decide +kernel
theorem zd9_40 : zDk 9 40 43 10 2 = true := by decide +kernel
theorem zd9_43 : zD 9 43 .ixor 1 44 = true := by decide +kernel
theorem zd9_44 : zD 9 44 (.iload_n 2) 1 45 = true := by decide +kernel
theorem zd9_45 : zDc 9 45 46 (Int32.ofNat 3) = true := by decide +kernel
theorem zd9_46 : zD 9 46 .iushr 1 47 = true := by decide +kernel
theorem zd9_47 : zD 9 47 .ixor 1 48 = true := by decide +kernel
theorem zd9_48 : zD 9 48 (.istore 4) 2 50 = true := by decide +kernel
theorem zd9_50 : zD 9 50 (.iload_n 3) 1 51 = true := by decide +kernel
theorem zd9_51 : zDc 9 51 53 (Int32.ofNat 17) = true := by decide +kernel
theorem zd9_53 : zDk 9 53 56 10 2 = true := by decide +kernel
theorem zd9_56 : zD 9 56 (.iload_n 3) 1 57 = true := by decide +kernel
theorem zd9_57 : zDc 9 57 59 (Int32.ofNat 19) = true := by decide +kernel
theorem zd9_59 : zDk 9 59 62 10 2 = true := by decide +kernel
theorem zd9_62 : zD 9 62 .ixor 1 63 = true := by decide +kernel
theorem zd9_63 : zD 9 63 (.iload_n 3) 1 64 = true := by decide +kernel
theorem zd9_64 : zDc 9 64 66 (Int32.ofNat 10) = true := by decide +kernel
theorem zd9_66 : zD 9 66 .iushr 1 67 = true := by decide +kernel
theorem zd9_67 : zD 9 67 .ixor 1 68 = true := by decide +kernel
theorem zd9_68 : zD 9 68 (.istore 5) 2 70 = true := by decide +kernel
theorem zd9_70 : zD 9 70 (.aload_n 0) 1 71 = true := by decide +kernel
theorem zd9_71 : zDg 9 71 74 1 1 (.array .int) = true := by decide +kernel
theorem zd9_74 : zD 9 74 (.iload_n 1) 1 75 = true := by decide +kernel
theorem zd9_75 : zD 9 75 (.aload_n 0) 1 76 = true := by decide +kernel
theorem zd9_76 : zDg 9 76 79 1 1 (.array .int) = true := by decide +kernel
theorem zd9_79 : zD 9 79 (.iload_n 1) 1 80 = true := by decide +kernel
theorem zd9_80 : zDc 9 80 82 (Int32.ofNat 16) = true := by decide +kernel
theorem zd9_82 : zD 9 82 .isub 1 83 = true := by decide +kernel
theorem zd9_83 : zD 9 83 .iaload 1 84 = true := by decide +kernel
theorem zd9_84 : zD 9 84 (.iload 4) 2 86 = true := by decide +kernel
theorem zd9_86 : zD 9 86 .iadd 1 87 = true := by decide +kernel
theorem zd9_87 : zD 9 87 (.aload_n 0) 1 88 = true := by decide +kernel
theorem zd9_88 : zDg 9 88 91 1 1 (.array .int) = true := by decide +kernel
theorem zd9_91 : zD 9 91 (.iload_n 1) 1 92 = true := by decide +kernel
theorem zd9_92 : zDc 9 92 94 (Int32.ofNat 7) = true := by decide +kernel
theorem zd9_94 : zD 9 94 .isub 1 95 = true := by decide +kernel
theorem zd9_95 : zD 9 95 .iaload 1 96 = true := by decide +kernel
theorem zd9_96 : zD 9 96 .iadd 1 97 = true := by decide +kernel
theorem zd9_97 : zD 9 97 (.iload 5) 2 99 = true := by decide +kernel
theorem zd9_99 : zD 9 99 .iadd 1 100 = true := by decide +kernel
theorem zd9_100 : zD 9 100 .iastore 1 101 = true := by decide +kernel
theorem zd9_101 : zDi 9 101 104 1 (Int32.ofNat 1) = true := by decide +kernel
theorem zd9_104 : zDj 9 104 3 = true := by decide +kernel
theorem zd9_107 : zD 9 107 .return_ 1 108 = true := by decide +kernel
theorem zd10_0 : zD 10 0 (.iload_n 0) 1 1 = true := by decide +kernel
theorem zd10_1 : zD 10 1 (.iload_n 1) 1 2 = true := by decide +kernel
theorem zd10_2 : zD 10 2 .iushr 1 3 = true := by decide +kernel
theorem zd10_3 : zD 10 3 (.iload_n 0) 1 4 = true := by decide +kernel
theorem zd10_4 : zDc 10 4 6 (Int32.ofNat 32) = true := by decide +kernel
theorem zd10_6 : zD 10 6 (.iload_n 1) 1 7 = true := by decide +kernel
theorem zd10_7 : zD 10 7 .isub 1 8 = true := by decide +kernel
theorem zd10_8 : zD 10 8 .ishl 1 9 = true := by decide +kernel
theorem zd10_9 : zD 10 9 .ior 1 10 = true := by decide +kernel
theorem zd10_10 : zD 10 10 .ireturn 1 11 = true := by decide +kernel
theorem zd11_0 : zD 11 0 (.aload_n 0) 1 1 = true := by decide +kernel
theorem zd11_1 : zDg 11 1 4 1 0 (.array .int) = true := by decide +kernel
theorem zd11_4 : zDc 11 4 5 (Int32.ofNat 0) = true := by decide +kernel
theorem zd11_5 : zD 11 5 .iaload 1 6 = true := by decide +kernel
theorem zd11_6 : zD 11 6 (.istore_n 1) 1 7 = true := by decide +kernel
theorem zd11_7 : zD 11 7 (.aload_n 0) 1 8 = true := by decide +kernel
theorem zd11_8 : zDg 11 8 11 1 0 (.array .int) = true := by decide +kernel
theorem zd11_11 : zDc 11 11 12 (Int32.ofNat 1) = true := by decide +kernel
theorem zd11_12 : zD 11 12 .iaload 1 13 = true := by decide +kernel
theorem zd11_13 : zD 11 13 (.istore_n 2) 1 14 = true := by decide +kernel
theorem zd11_14 : zD 11 14 (.aload_n 0) 1 15 = true := by decide +kernel
theorem zd11_15 : zDg 11 15 18 1 0 (.array .int) = true := by decide +kernel
theorem zd11_18 : zDc 11 18 19 (Int32.ofNat 2) = true := by decide +kernel
theorem zd11_19 : zD 11 19 .iaload 1 20 = true := by decide +kernel
theorem zd11_20 : zD 11 20 (.istore_n 3) 1 21 = true := by decide +kernel
theorem zd11_21 : zD 11 21 (.aload_n 0) 1 22 = true := by decide +kernel
theorem zd11_22 : zDg 11 22 25 1 0 (.array .int) = true := by decide +kernel
theorem zd11_25 : zDc 11 25 26 (Int32.ofNat 3) = true := by decide +kernel
theorem zd11_26 : zD 11 26 .iaload 1 27 = true := by decide +kernel
theorem zd11_27 : zD 11 27 (.istore 4) 2 29 = true := by decide +kernel
theorem zd11_29 : zD 11 29 (.aload_n 0) 1 30 = true := by decide +kernel
theorem zd11_30 : zDg 11 30 33 1 0 (.array .int) = true := by decide +kernel
theorem zd11_33 : zDc 11 33 34 (Int32.ofNat 4) = true := by decide +kernel
theorem zd11_34 : zD 11 34 .iaload 1 35 = true := by decide +kernel
theorem zd11_35 : zD 11 35 (.istore 5) 2 37 = true := by decide +kernel
theorem zd11_37 : zD 11 37 (.aload_n 0) 1 38 = true := by decide +kernel
theorem zd11_38 : zDg 11 38 41 1 0 (.array .int) = true := by decide +kernel
theorem zd11_41 : zDc 11 41 42 (Int32.ofNat 5) = true := by decide +kernel
theorem zd11_42 : zD 11 42 .iaload 1 43 = true := by decide +kernel
theorem zd11_43 : zD 11 43 (.istore 6) 2 45 = true := by decide +kernel
theorem zd11_45 : zD 11 45 (.aload_n 0) 1 46 = true := by decide +kernel
theorem zd11_46 : zDg 11 46 49 1 0 (.array .int) = true := by decide +kernel
theorem zd11_49 : zDc 11 49 51 (Int32.ofNat 6) = true := by decide +kernel
theorem zd11_51 : zD 11 51 .iaload 1 52 = true := by decide +kernel
theorem zd11_52 : zD 11 52 (.istore 7) 2 54 = true := by decide +kernel
theorem zd11_54 : zD 11 54 (.aload_n 0) 1 55 = true := by decide +kernel
theorem zd11_55 : zDg 11 55 58 1 0 (.array .int) = true := by decide +kernel
theorem zd11_58 : zDc 11 58 60 (Int32.ofNat 7) = true := by decide +kernel
theorem zd11_60 : zD 11 60 .iaload 1 61 = true := by decide +kernel
theorem zd11_61 : zD 11 61 (.istore 8) 2 63 = true := by decide +kernel
theorem zd11_63 : zDc 11 63 64 (Int32.ofNat 0) = true := by decide +kernel
theorem zd11_64 : zD 11 64 (.istore 9) 2 66 = true := by decide +kernel
theorem zd11_66 : zD 11 66 (.iload 9) 2 68 = true := by decide +kernel
theorem zd11_68 : zDs 11 68 71 2 = true := by decide +kernel
theorem zd11_71 : zD 11 71 .arraylength 1 72 = true := by decide +kernel
theorem zd11_72 : zDm 11 72 .ge 215 75 = true := by decide +kernel
theorem zd11_75 : zD 11 75 (.iload 5) 2 77 = true := by decide +kernel
theorem zd11_77 : zDc 11 77 79 (Int32.ofNat 6) = true := by decide +kernel
theorem zd11_79 : zDk 11 79 82 10 2 = true := by decide +kernel
theorem zd11_82 : zD 11 82 (.iload 5) 2 84 = true := by decide +kernel
theorem zd11_84 : zDc 11 84 86 (Int32.ofNat 11) = true := by decide +kernel
theorem zd11_86 : zDk 11 86 89 10 2 = true := by decide +kernel
theorem zd11_89 : zD 11 89 .ixor 1 90 = true := by decide +kernel
theorem zd11_90 : zD 11 90 (.iload 5) 2 92 = true := by decide +kernel
theorem zd11_92 : zDc 11 92 94 (Int32.ofNat 25) = true := by decide +kernel
theorem zd11_94 : zDk 11 94 97 10 2 = true := by decide +kernel
theorem zd11_97 : zD 11 97 .ixor 1 98 = true := by decide +kernel
theorem zd11_98 : zD 11 98 (.istore 10) 2 100 = true := by decide +kernel
theorem zd11_100 : zD 11 100 (.iload 5) 2 102 = true := by decide +kernel
theorem zd11_102 : zD 11 102 (.iload 6) 2 104 = true := by decide +kernel
theorem zd11_104 : zD 11 104 .iand 1 105 = true := by decide +kernel
theorem zd11_105 : zD 11 105 (.iload 5) 2 107 = true := by decide +kernel
theorem zd11_107 : zDc 11 107 108 (-1) = true := by decide +kernel
theorem zd11_108 : zD 11 108 .ixor 1 109 = true := by decide +kernel
theorem zd11_109 : zD 11 109 (.iload 7) 2 111 = true := by decide +kernel
theorem zd11_111 : zD 11 111 .iand 1 112 = true := by decide +kernel
theorem zd11_112 : zD 11 112 .ixor 1 113 = true := by decide +kernel
theorem zd11_113 : zD 11 113 (.istore 11) 2 115 = true := by decide +kernel
theorem zd11_115 : zD 11 115 (.iload 8) 2 117 = true := by decide +kernel
theorem zd11_117 : zD 11 117 (.iload 10) 2 119 = true := by decide +kernel
theorem zd11_119 : zD 11 119 .iadd 1 120 = true := by decide +kernel
theorem zd11_120 : zD 11 120 (.iload 11) 2 122 = true := by decide +kernel
theorem zd11_122 : zD 11 122 .iadd 1 123 = true := by decide +kernel
theorem zd11_123 : zDs 11 123 126 2 = true := by decide +kernel
theorem zd11_126 : zD 11 126 (.iload 9) 2 128 = true := by decide +kernel
theorem zd11_128 : zD 11 128 .iaload 1 129 = true := by decide +kernel
theorem zd11_129 : zD 11 129 .iadd 1 130 = true := by decide +kernel
theorem zd11_130 : zD 11 130 (.aload_n 0) 1 131 = true := by decide +kernel
theorem zd11_131 : zDg 11 131 134 1 1 (.array .int) = true := by decide +kernel
theorem zd11_134 : zD 11 134 (.iload 9) 2 136 = true := by decide +kernel
theorem zd11_136 : zD 11 136 .iaload 1 137 = true := by decide +kernel
theorem zd11_137 : zD 11 137 .iadd 1 138 = true := by decide +kernel
theorem zd11_138 : zD 11 138 (.istore 12) 2 140 = true := by decide +kernel
theorem zd11_140 : zD 11 140 (.iload_n 1) 1 141 = true := by decide +kernel
theorem zd11_141 : zDc 11 141 142 (Int32.ofNat 2) = true := by decide +kernel
theorem zd11_142 : zDk 11 142 145 10 2 = true := by decide +kernel
theorem zd11_145 : zD 11 145 (.iload_n 1) 1 146 = true := by decide +kernel
theorem zd11_146 : zDc 11 146 148 (Int32.ofNat 13) = true := by decide +kernel
theorem zd11_148 : zDk 11 148 151 10 2 = true := by decide +kernel
theorem zd11_151 : zD 11 151 .ixor 1 152 = true := by decide +kernel
theorem zd11_152 : zD 11 152 (.iload_n 1) 1 153 = true := by decide +kernel
theorem zd11_153 : zDc 11 153 155 (Int32.ofNat 22) = true := by decide +kernel
theorem zd11_155 : zDk 11 155 158 10 2 = true := by decide +kernel
theorem zd11_158 : zD 11 158 .ixor 1 159 = true := by decide +kernel
theorem zd11_159 : zD 11 159 (.istore 13) 2 161 = true := by decide +kernel
theorem zd11_161 : zD 11 161 (.iload_n 1) 1 162 = true := by decide +kernel
theorem zd11_162 : zD 11 162 (.iload_n 2) 1 163 = true := by decide +kernel
theorem zd11_163 : zD 11 163 .iand 1 164 = true := by decide +kernel
theorem zd11_164 : zD 11 164 (.iload_n 1) 1 165 = true := by decide +kernel
theorem zd11_165 : zD 11 165 (.iload_n 3) 1 166 = true := by decide +kernel
theorem zd11_166 : zD 11 166 .iand 1 167 = true := by decide +kernel
theorem zd11_167 : zD 11 167 .ixor 1 168 = true := by decide +kernel
theorem zd11_168 : zD 11 168 (.iload_n 2) 1 169 = true := by decide +kernel
theorem zd11_169 : zD 11 169 (.iload_n 3) 1 170 = true := by decide +kernel
theorem zd11_170 : zD 11 170 .iand 1 171 = true := by decide +kernel
theorem zd11_171 : zD 11 171 .ixor 1 172 = true := by decide +kernel
theorem zd11_172 : zD 11 172 (.istore 14) 2 174 = true := by decide +kernel
theorem zd11_174 : zD 11 174 (.iload 7) 2 176 = true := by decide +kernel
theorem zd11_176 : zD 11 176 (.istore 8) 2 178 = true := by decide +kernel
theorem zd11_178 : zD 11 178 (.iload 6) 2 180 = true := by decide +kernel
theorem zd11_180 : zD 11 180 (.istore 7) 2 182 = true := by decide +kernel
theorem zd11_182 : zD 11 182 (.iload 5) 2 184 = true := by decide +kernel
theorem zd11_184 : zD 11 184 (.istore 6) 2 186 = true := by decide +kernel
theorem zd11_186 : zD 11 186 (.iload 4) 2 188 = true := by decide +kernel
theorem zd11_188 : zD 11 188 (.iload 12) 2 190 = true := by decide +kernel
theorem zd11_190 : zD 11 190 .iadd 1 191 = true := by decide +kernel
theorem zd11_191 : zD 11 191 (.istore 5) 2 193 = true := by decide +kernel
theorem zd11_193 : zD 11 193 (.iload_n 3) 1 194 = true := by decide +kernel
theorem zd11_194 : zD 11 194 (.istore 4) 2 196 = true := by decide +kernel
theorem zd11_196 : zD 11 196 (.iload_n 2) 1 197 = true := by decide +kernel
theorem zd11_197 : zD 11 197 (.istore_n 3) 1 198 = true := by decide +kernel
theorem zd11_198 : zD 11 198 (.iload_n 1) 1 199 = true := by decide +kernel
theorem zd11_199 : zD 11 199 (.istore_n 2) 1 200 = true := by decide +kernel
theorem zd11_200 : zD 11 200 (.iload 12) 2 202 = true := by decide +kernel
theorem zd11_202 : zD 11 202 (.iload 13) 2 204 = true := by decide +kernel
theorem zd11_204 : zD 11 204 .iadd 1 205 = true := by decide +kernel
theorem zd11_205 : zD 11 205 (.iload 14) 2 207 = true := by decide +kernel
theorem zd11_207 : zD 11 207 .iadd 1 208 = true := by decide +kernel
theorem zd11_208 : zD 11 208 (.istore_n 1) 1 209 = true := by decide +kernel
theorem zd11_209 : zDi 11 209 212 9 (Int32.ofNat 1) = true := by decide +kernel
theorem zd11_212 : zDj 11 212 66 = true := by decide +kernel
theorem zd11_215 : zD 11 215 (.aload_n 0) 1 216 = true := by decide +kernel
theorem zd11_216 : zDg 11 216 219 1 0 (.array .int) = true := by decide +kernel
theorem zd11_219 : zDc 11 219 220 (Int32.ofNat 0) = true := by decide +kernel
theorem zd11_220 : zD 11 220 .dup2 1 221 = true := by decide +kernel
theorem zd11_221 : zD 11 221 .iaload 1 222 = true := by decide +kernel
theorem zd11_222 : zD 11 222 (.iload_n 1) 1 223 = true := by decide +kernel
theorem zd11_223 : zD 11 223 .iadd 1 224 = true := by decide +kernel
theorem zd11_224 : zD 11 224 .iastore 1 225 = true := by decide +kernel
theorem zd11_225 : zD 11 225 (.aload_n 0) 1 226 = true := by decide +kernel
theorem zd11_226 : zDg 11 226 229 1 0 (.array .int) = true := by decide +kernel
theorem zd11_229 : zDc 11 229 230 (Int32.ofNat 1) = true := by decide +kernel
theorem zd11_230 : zD 11 230 .dup2 1 231 = true := by decide +kernel
theorem zd11_231 : zD 11 231 .iaload 1 232 = true := by decide +kernel
theorem zd11_232 : zD 11 232 (.iload_n 2) 1 233 = true := by decide +kernel
theorem zd11_233 : zD 11 233 .iadd 1 234 = true := by decide +kernel
theorem zd11_234 : zD 11 234 .iastore 1 235 = true := by decide +kernel
theorem zd11_235 : zD 11 235 (.aload_n 0) 1 236 = true := by decide +kernel
theorem zd11_236 : zDg 11 236 239 1 0 (.array .int) = true := by decide +kernel
theorem zd11_239 : zDc 11 239 240 (Int32.ofNat 2) = true := by decide +kernel
theorem zd11_240 : zD 11 240 .dup2 1 241 = true := by decide +kernel
theorem zd11_241 : zD 11 241 .iaload 1 242 = true := by decide +kernel
theorem zd11_242 : zD 11 242 (.iload_n 3) 1 243 = true := by decide +kernel
theorem zd11_243 : zD 11 243 .iadd 1 244 = true := by decide +kernel
theorem zd11_244 : zD 11 244 .iastore 1 245 = true := by decide +kernel
theorem zd11_245 : zD 11 245 (.aload_n 0) 1 246 = true := by decide +kernel
theorem zd11_246 : zDg 11 246 249 1 0 (.array .int) = true := by decide +kernel
theorem zd11_249 : zDc 11 249 250 (Int32.ofNat 3) = true := by decide +kernel
theorem zd11_250 : zD 11 250 .dup2 1 251 = true := by decide +kernel
theorem zd11_251 : zD 11 251 .iaload 1 252 = true := by decide +kernel
theorem zd11_252 : zD 11 252 (.iload 4) 2 254 = true := by decide +kernel
theorem zd11_254 : zD 11 254 .iadd 1 255 = true := by decide +kernel
theorem zd11_255 : zD 11 255 .iastore 1 256 = true := by decide +kernel
theorem zd11_256 : zD 11 256 (.aload_n 0) 1 257 = true := by decide +kernel
theorem zd11_257 : zDg 11 257 260 1 0 (.array .int) = true := by decide +kernel
theorem zd11_260 : zDc 11 260 261 (Int32.ofNat 4) = true := by decide +kernel
theorem zd11_261 : zD 11 261 .dup2 1 262 = true := by decide +kernel
theorem zd11_262 : zD 11 262 .iaload 1 263 = true := by decide +kernel
theorem zd11_263 : zD 11 263 (.iload 5) 2 265 = true := by decide +kernel
theorem zd11_265 : zD 11 265 .iadd 1 266 = true := by decide +kernel
theorem zd11_266 : zD 11 266 .iastore 1 267 = true := by decide +kernel
theorem zd11_267 : zD 11 267 (.aload_n 0) 1 268 = true := by decide +kernel
theorem zd11_268 : zDg 11 268 271 1 0 (.array .int) = true := by decide +kernel
theorem zd11_271 : zDc 11 271 272 (Int32.ofNat 5) = true := by decide +kernel
theorem zd11_272 : zD 11 272 .dup2 1 273 = true := by decide +kernel
theorem zd11_273 : zD 11 273 .iaload 1 274 = true := by decide +kernel
theorem zd11_274 : zD 11 274 (.iload 6) 2 276 = true := by decide +kernel
theorem zd11_276 : zD 11 276 .iadd 1 277 = true := by decide +kernel
theorem zd11_277 : zD 11 277 .iastore 1 278 = true := by decide +kernel
theorem zd11_278 : zD 11 278 (.aload_n 0) 1 279 = true := by decide +kernel
theorem zd11_279 : zDg 11 279 282 1 0 (.array .int) = true := by decide +kernel
theorem zd11_282 : zDc 11 282 284 (Int32.ofNat 6) = true := by decide +kernel
theorem zd11_284 : zD 11 284 .dup2 1 285 = true := by decide +kernel
theorem zd11_285 : zD 11 285 .iaload 1 286 = true := by decide +kernel
theorem zd11_286 : zD 11 286 (.iload 7) 2 288 = true := by decide +kernel
theorem zd11_288 : zD 11 288 .iadd 1 289 = true := by decide +kernel
theorem zd11_289 : zD 11 289 .iastore 1 290 = true := by decide +kernel
theorem zd11_290 : zD 11 290 (.aload_n 0) 1 291 = true := by decide +kernel
theorem zd11_291 : zDg 11 291 294 1 0 (.array .int) = true := by decide +kernel
theorem zd11_294 : zDc 11 294 296 (Int32.ofNat 7) = true := by decide +kernel
theorem zd11_296 : zD 11 296 .dup2 1 297 = true := by decide +kernel
theorem zd11_297 : zD 11 297 .iaload 1 298 = true := by decide +kernel
theorem zd11_298 : zD 11 298 (.iload 8) 2 300 = true := by decide +kernel
theorem zd11_300 : zD 11 300 .iadd 1 301 = true := by decide +kernel
theorem zd11_301 : zD 11 301 .iastore 1 302 = true := by decide +kernel
theorem zd11_302 : zD 11 302 .return_ 1 303 = true := by decide +kernel
theorem zd12_0 : zD 12 0 (.aload_n 0) 1 1 = true := by decide +kernel
theorem zd12_1 : zDo 12 1 4 = true := by decide +kernel
theorem zd12_4 : zD 12 4 (.aload_n 0) 1 5 = true := by decide +kernel
theorem zd12_5 : zDc 12 5 7 (Int32.ofNat 100) = true := by decide +kernel
theorem zd12_7 : zD 12 7 (.newarray .int) 2 9 = true := by decide +kernel
theorem zd12_9 : zDp 12 9 12 5 0 (.array .int) = true := by decide +kernel
theorem zd12_12 : zD 12 12 (.aload_n 0) 1 13 = true := by decide +kernel
theorem zd12_13 : zDc 12 13 15 (Int32.ofNat 100) = true := by decide +kernel
theorem zd12_15 : zD 12 15 (.newarray .int) 2 17 = true := by decide +kernel
theorem zd12_17 : zDp 12 17 20 5 1 (.array .int) = true := by decide +kernel
theorem zd12_20 : zD 12 20 (.aload_n 0) 1 21 = true := by decide +kernel
theorem zd12_21 : zDc 12 21 23 (Int32.ofNat 100) = true := by decide +kernel
theorem zd12_23 : zD 12 23 (.newarray .int) 2 25 = true := by decide +kernel
theorem zd12_25 : zDp 12 25 28 5 2 (.array .int) = true := by decide +kernel
theorem zd12_28 : zD 12 28 (.aload_n 0) 1 29 = true := by decide +kernel
theorem zd12_29 : zDc 12 29 31 (Int32.ofNat 100) = true := by decide +kernel
theorem zd12_31 : zD 12 31 (.newarray .int) 2 33 = true := by decide +kernel
theorem zd12_33 : zDp 12 33 36 5 3 (.array .int) = true := by decide +kernel
theorem zd12_36 : zD 12 36 .return_ 1 37 = true := by decide +kernel
theorem zd13_0 : zD 13 0 (.aload_n 0) 1 1 = true := by decide +kernel
theorem zd13_1 : zDo 13 1 4 = true := by decide +kernel
theorem zd13_4 : zD 13 4 (.aload_n 0) 1 5 = true := by decide +kernel
theorem zd13_5 : zDc 13 5 8 (Int32.ofNat 300) = true := by decide +kernel
theorem zd13_8 : zD 13 8 (.newarray .int) 2 10 = true := by decide +kernel
theorem zd13_10 : zDp 13 10 13 6 0 (.array .int) = true := by decide +kernel
theorem zd13_13 : zD 13 13 .return_ 1 14 = true := by decide +kernel
theorem zd14_0 : zD 14 0 (.aload_n 0) 1 1 = true := by decide +kernel
theorem zd14_1 : zDg 14 1 4 0 2 (.int) = true := by decide +kernel
theorem zd14_4 : zDc 14 4 6 (Int32.ofNat 10) = true := by decide +kernel
theorem zd14_6 : zDm 14 6 .lt 11 9 = true := by decide +kernel
theorem zd14_9 : zDc 14 9 10 (-1) = true := by decide +kernel
theorem zd14_10 : zD 14 10 .ireturn 1 11 = true := by decide +kernel
theorem zd14_11 : zD 14 11 (.aload_n 0) 1 12 = true := by decide +kernel
theorem zd14_12 : zDg 14 12 15 0 2 (.int) = true := by decide +kernel
theorem zd14_15 : zD 14 15 (.istore_n 1) 1 16 = true := by decide +kernel
theorem zd14_16 : zD 14 16 (.aload_n 0) 1 17 = true := by decide +kernel
theorem zd14_17 : zDg 14 17 20 0 1 (.array (.object "ReleaseLeaves$Release")) = true := by decide +kernel
theorem zd14_20 : zD 14 20 (.iload_n 1) 1 21 = true := by decide +kernel
theorem zd14_21 : zD 14 21 .aaload 1 22 = true := by decide +kernel
theorem zd14_22 : zD 14 22 (.astore_n 2) 1 23 = true := by decide +kernel
theorem zd14_23 : zD 14 23 (.aload_n 2) 1 24 = true := by decide +kernel
theorem zd14_24 : zDk 14 24 27 15 0 = true := by decide +kernel
theorem zd14_27 : zD 14 27 (.aload_n 2) 1 28 = true := by decide +kernel
theorem zd14_28 : zDg 14 28 31 2 2 (.object "ReleaseLeaves$Tree") = true := by decide +kernel
theorem zd14_31 : zD 14 31 (.aload_n 2) 1 32 = true := by decide +kernel
theorem zd14_32 : zDg 14 32 35 2 0 (.array (.object "ReleaseLeaves$StoredFile")) = true := by decide +kernel
theorem zd14_35 : zD 14 35 (.aload_n 2) 1 36 = true := by decide +kernel
theorem zd14_36 : zDg 14 36 39 2 1 (.int) = true := by decide +kernel
theorem zd14_39 : zD 14 39 (.aload_n 0) 1 40 = true := by decide +kernel
theorem zd14_40 : zDg 14 40 43 0 0 (.object "ReleaseLeaves$Digester") = true := by decide +kernel
theorem zd14_43 : zDk 14 43 46 16 0 = true := by decide +kernel
theorem zd14_46 : zD 14 46 (.aload_n 0) 1 47 = true := by decide +kernel
theorem zd14_47 : zDg 14 47 50 0 0 (.object "ReleaseLeaves$Digester") = true := by decide +kernel
theorem zd14_50 : zDk 14 50 53 6 0 = true := by decide +kernel
theorem zd14_53 : zD 14 53 (.aload_n 0) 1 54 = true := by decide +kernel
theorem zd14_54 : zDg 14 54 57 0 0 (.object "ReleaseLeaves$Digester") = true := by decide +kernel
theorem zd14_57 : zD 14 57 (.aload_n 0) 1 58 = true := by decide +kernel
theorem zd14_58 : zDg 14 58 61 0 3 (.array (.array .int)) = true := by decide +kernel
theorem zd14_61 : zD 14 61 (.iload_n 1) 1 62 = true := by decide +kernel
theorem zd14_62 : zD 14 62 .aaload 1 63 = true := by decide +kernel
theorem zd14_63 : zDk 14 63 66 22 0 = true := by decide +kernel
theorem zd14_66 : zD 14 66 (.aload_n 0) 1 67 = true := by decide +kernel
theorem zd14_67 : zDg 14 67 70 0 0 (.object "ReleaseLeaves$Digester") = true := by decide +kernel
theorem zd14_70 : zD 14 70 (.aload_n 2) 1 71 = true := by decide +kernel
theorem zd14_71 : zDg 14 71 74 2 2 (.object "ReleaseLeaves$Tree") = true := by decide +kernel
theorem zd14_74 : zDk 14 74 77 23 0 = true := by decide +kernel
theorem zd14_77 : zDk 14 77 80 22 0 = true := by decide +kernel
theorem zd14_80 : zD 14 80 (.aload_n 0) 1 81 = true := by decide +kernel
theorem zd14_81 : zDg 14 81 84 0 0 (.object "ReleaseLeaves$Digester") = true := by decide +kernel
theorem zd14_84 : zD 14 84 (.aload_n 0) 1 85 = true := by decide +kernel
theorem zd14_85 : zDg 14 85 88 0 3 (.array (.array .int)) = true := by decide +kernel
theorem zd14_88 : zD 14 88 (.iload_n 1) 1 89 = true := by decide +kernel
theorem zd14_89 : zDc 14 89 90 (Int32.ofNat 1) = true := by decide +kernel
theorem zd14_90 : zD 14 90 .iadd 1 91 = true := by decide +kernel
theorem zd14_91 : zD 14 91 .aaload 1 92 = true := by decide +kernel
theorem zd14_92 : zDk 14 92 95 7 0 = true := by decide +kernel
theorem zd14_95 : zD 14 95 (.aload_n 0) 1 96 = true := by decide +kernel
theorem zd14_96 : zD 14 96 (.iload_n 1) 1 97 = true := by decide +kernel
theorem zd14_97 : zDc 14 97 98 (Int32.ofNat 1) = true := by decide +kernel
theorem zd14_98 : zD 14 98 .iadd 1 99 = true := by decide +kernel
theorem zd14_99 : zDp 14 99 102 0 2 (.int) = true := by decide +kernel
theorem zd14_102 : zD 14 102 (.iload_n 1) 1 103 = true := by decide +kernel
theorem zd14_103 : zD 14 103 .ireturn 1 104 = true := by decide +kernel
theorem zd15_0 : zDc 15 0 1 (Int32.ofNat 1) = true := by decide +kernel
theorem zd15_1 : zD 15 1 (.istore_n 1) 1 2 = true := by decide +kernel
theorem zd15_2 : zD 15 2 (.iload_n 1) 1 3 = true := by decide +kernel
theorem zd15_3 : zD 15 3 (.aload_n 0) 1 4 = true := by decide +kernel
theorem zd15_4 : zDg 15 4 7 2 1 (.int) = true := by decide +kernel
theorem zd15_7 : zDm 15 7 .ge 74 10 = true := by decide +kernel
theorem zd15_10 : zD 15 10 (.aload_n 0) 1 11 = true := by decide +kernel
theorem zd15_11 : zDg 15 11 14 2 0 (.array (.object "ReleaseLeaves$StoredFile")) = true := by decide +kernel
theorem zd15_14 : zD 15 14 (.iload_n 1) 1 15 = true := by decide +kernel
theorem zd15_15 : zD 15 15 .aaload 1 16 = true := by decide +kernel
theorem zd15_16 : zD 15 16 (.astore_n 2) 1 17 = true := by decide +kernel
theorem zd15_17 : zD 15 17 (.iload_n 1) 1 18 = true := by decide +kernel
theorem zd15_18 : zD 15 18 (.istore_n 3) 1 19 = true := by decide +kernel
theorem zd15_19 : zD 15 19 (.iload_n 3) 1 20 = true := by decide +kernel
theorem zd15_20 : zDf 15 20 .le 61 23 = true := by decide +kernel
theorem zd15_23 : zD 15 23 (.aload_n 0) 1 24 = true := by decide +kernel
theorem zd15_24 : zDg 15 24 27 2 0 (.array (.object "ReleaseLeaves$StoredFile")) = true := by decide +kernel
theorem zd15_27 : zD 15 27 (.iload_n 3) 1 28 = true := by decide +kernel
theorem zd15_28 : zDc 15 28 29 (Int32.ofNat 1) = true := by decide +kernel
theorem zd15_29 : zD 15 29 .isub 1 30 = true := by decide +kernel
theorem zd15_30 : zD 15 30 .aaload 1 31 = true := by decide +kernel
theorem zd15_31 : zDg 15 31 34 4 0 (.int) = true := by decide +kernel
theorem zd15_34 : zD 15 34 (.aload_n 2) 1 35 = true := by decide +kernel
theorem zd15_35 : zDg 15 35 38 4 0 (.int) = true := by decide +kernel
theorem zd15_38 : zDm 15 38 .le 61 41 = true := by decide +kernel
theorem zd15_41 : zD 15 41 (.aload_n 0) 1 42 = true := by decide +kernel
theorem zd15_42 : zDg 15 42 45 2 0 (.array (.object "ReleaseLeaves$StoredFile")) = true := by decide +kernel
theorem zd15_45 : zD 15 45 (.iload_n 3) 1 46 = true := by decide +kernel
theorem zd15_46 : zD 15 46 (.aload_n 0) 1 47 = true := by decide +kernel
theorem zd15_47 : zDg 15 47 50 2 0 (.array (.object "ReleaseLeaves$StoredFile")) = true := by decide +kernel
theorem zd15_50 : zD 15 50 (.iload_n 3) 1 51 = true := by decide +kernel
theorem zd15_51 : zDc 15 51 52 (Int32.ofNat 1) = true := by decide +kernel
theorem zd15_52 : zD 15 52 .isub 1 53 = true := by decide +kernel
theorem zd15_53 : zD 15 53 .aaload 1 54 = true := by decide +kernel
theorem zd15_54 : zD 15 54 .aastore 1 55 = true := by decide +kernel
theorem zd15_55 : zDi 15 55 58 3 (-(Int32.ofNat 1)) = true := by decide +kernel
theorem zd15_58 : zDj 15 58 19 = true := by decide +kernel
theorem zd15_61 : zD 15 61 (.aload_n 0) 1 62 = true := by decide +kernel
theorem zd15_62 : zDg 15 62 65 2 0 (.array (.object "ReleaseLeaves$StoredFile")) = true := by decide +kernel
theorem zd15_65 : zD 15 65 (.iload_n 3) 1 66 = true := by decide +kernel
theorem zd15_66 : zD 15 66 (.aload_n 2) 1 67 = true := by decide +kernel
theorem zd15_67 : zD 15 67 .aastore 1 68 = true := by decide +kernel
theorem zd15_68 : zDi 15 68 71 1 (Int32.ofNat 1) = true := by decide +kernel
theorem zd15_71 : zDj 15 71 2 = true := by decide +kernel
theorem zd15_74 : zD 15 74 .return_ 1 75 = true := by decide +kernel
theorem zd16_0 : zD 16 0 (.aload_n 3) 1 1 = true := by decide +kernel
theorem zd16_1 : zDk 16 1 4 6 0 = true := by decide +kernel
theorem zd16_4 : zD 16 4 (.aload_n 3) 1 5 = true := by decide +kernel
theorem zd16_5 : zD 16 5 (.aload_n 0) 1 6 = true := by decide +kernel
theorem zd16_6 : zDc 16 6 7 (Int32.ofNat 0) = true := by decide +kernel
theorem zd16_7 : zDc 16 7 8 (Int32.ofNat 0) = true := by decide +kernel
theorem zd16_8 : zDk 16 8 11 17 0 = true := by decide +kernel
theorem zd16_11 : zDk 16 11 14 7 0 = true := by decide +kernel
theorem zd16_14 : zDc 16 14 15 (Int32.ofNat 0) = true := by decide +kernel
theorem zd16_15 : zD 16 15 (.istore 4) 2 17 = true := by decide +kernel
theorem zd16_17 : zD 16 17 (.iload 4) 2 19 = true := by decide +kernel
theorem zd16_19 : zD 16 19 (.iload_n 2) 1 20 = true := by decide +kernel
theorem zd16_20 : zDm 16 20 .ge 44 23 = true := by decide +kernel
theorem zd16_23 : zD 16 23 (.aload_n 1) 1 24 = true := by decide +kernel
theorem zd16_24 : zD 16 24 (.iload 4) 2 26 = true := by decide +kernel
theorem zd16_26 : zD 16 26 .aaload 1 27 = true := by decide +kernel
theorem zd16_27 : zD 16 27 (.aload_n 3) 1 28 = true := by decide +kernel
theorem zd16_28 : zD 16 28 (.aload_n 0) 1 29 = true := by decide +kernel
theorem zd16_29 : zDc 16 29 30 (Int32.ofNat 0) = true := by decide +kernel
theorem zd16_30 : zD 16 30 (.iload 4) 2 32 = true := by decide +kernel
theorem zd16_32 : zDk 16 32 35 17 0 = true := by decide +kernel
theorem zd16_35 : zDk 16 35 38 19 0 = true := by decide +kernel
theorem zd16_38 : zDi 16 38 41 4 (Int32.ofNat 1) = true := by decide +kernel
theorem zd16_41 : zDj 16 41 17 = true := by decide +kernel
theorem zd16_44 : zD 16 44 (.aload_n 0) 1 45 = true := by decide +kernel
theorem zd16_45 : zDg 16 45 48 3 1 (.array .int) = true := by decide +kernel
theorem zd16_48 : zDc 16 48 49 (Int32.ofNat 0) = true := by decide +kernel
theorem zd16_49 : zD 16 49 (.iload_n 2) 1 50 = true := by decide +kernel
theorem zd16_50 : zD 16 50 .iastore 1 51 = true := by decide +kernel
theorem zd16_51 : zDc 16 51 52 (Int32.ofNat 0) = true := by decide +kernel
theorem zd16_52 : zD 16 52 (.istore 4) 2 54 = true := by decide +kernel
theorem zd16_54 : zD 16 54 (.iload 4) 2 56 = true := by decide +kernel
theorem zd16_56 : zDc 16 56 57 (Int32.ofNat 1) = true := by decide +kernel
theorem zd16_57 : zD 16 57 .iadd 1 58 = true := by decide +kernel
theorem zd16_58 : zDc 16 58 59 (Int32.ofNat 4) = true := by decide +kernel
theorem zd16_59 : zDm 16 59 .ge 94 62 = true := by decide +kernel
theorem zd16_62 : zD 16 62 (.aload_n 0) 1 63 = true := by decide +kernel
theorem zd16_63 : zDg 16 63 66 3 1 (.array .int) = true := by decide +kernel
theorem zd16_66 : zD 16 66 (.iload 4) 2 68 = true := by decide +kernel
theorem zd16_68 : zD 16 68 .iaload 1 69 = true := by decide +kernel
theorem zd16_69 : zDc 16 69 70 (Int32.ofNat 1) = true := by decide +kernel
theorem zd16_70 : zDm 16 70 .le 94 73 = true := by decide +kernel
theorem zd16_73 : zD 16 73 (.aload_n 0) 1 74 = true := by decide +kernel
theorem zd16_74 : zD 16 74 (.iload 4) 2 76 = true := by decide +kernel
theorem zd16_76 : zD 16 76 (.aload_n 3) 1 77 = true := by decide +kernel
theorem zd16_77 : zDk 16 77 80 21 0 = true := by decide +kernel
theorem zd16_80 : zD 16 80 (.aload_n 0) 1 81 = true := by decide +kernel
theorem zd16_81 : zD 16 81 (.iload 4) 2 83 = true := by decide +kernel
theorem zd16_83 : zDc 16 83 84 (Int32.ofNat 1) = true := by decide +kernel
theorem zd16_84 : zD 16 84 .iadd 1 85 = true := by decide +kernel
theorem zd16_85 : zDp 16 85 88 3 2 (.int) = true := by decide +kernel
theorem zd16_88 : zDi 16 88 91 4 (Int32.ofNat 1) = true := by decide +kernel
theorem zd16_91 : zDj 16 91 54 = true := by decide +kernel
theorem zd16_94 : zD 16 94 .return_ 1 95 = true := by decide +kernel
theorem zd17_0 : zD 17 0 (.aload_n 0) 1 1 = true := by decide +kernel
theorem zd17_1 : zDg 17 1 4 3 0 (.array (.array .int)) = true := by decide +kernel
theorem zd17_4 : zD 17 4 (.iload_n 1) 1 5 = true := by decide +kernel
theorem zd17_5 : zDk 17 5 8 18 2 = true := by decide +kernel
theorem zd17_8 : zD 17 8 (.iload_n 2) 1 9 = true := by decide +kernel
theorem zd17_9 : zD 17 9 .iadd 1 10 = true := by decide +kernel
theorem zd17_10 : zD 17 10 .aaload 1 11 = true := by decide +kernel
theorem zd17_11 : zD 17 11 .areturn 1 12 = true := by decide +kernel
theorem zd18_0 : zDc 18 0 2 (Int32.ofNat 16) = true := by decide +kernel
theorem zd18_2 : zDc 18 2 4 (Int32.ofNat 16) = true := by decide +kernel
theorem zd18_4 : zD 18 4 (.iload_n 0) 1 5 = true := by decide +kernel
theorem zd18_5 : zD 18 5 .ishr 1 6 = true := by decide +kernel
theorem zd18_6 : zD 18 6 .isub 1 7 = true := by decide +kernel
theorem zd18_7 : zD 18 7 .ireturn 1 8 = true := by decide +kernel
theorem zd19_0 : zD 19 0 (.aload_n 1) 1 1 = true := by decide +kernel
theorem zd19_1 : zDk 19 1 4 6 0 = true := by decide +kernel
theorem zd19_4 : zD 19 4 (.aload_n 1) 1 5 = true := by decide +kernel
theorem zd19_5 : zDc 19 5 6 (Int32.ofNat 0) = true := by decide +kernel
theorem zd19_6 : zDk 19 6 9 8 0 = true := by decide +kernel
theorem zd19_9 : zD 19 9 (.aload_n 1) 1 10 = true := by decide +kernel
theorem zd19_10 : zD 19 10 (.aload_n 0) 1 11 = true := by decide +kernel
theorem zd19_11 : zDg 19 11 14 4 0 (.int) = true := by decide +kernel
theorem zd19_14 : zDc 19 14 17 (Int32.ofNat 256) = true := by decide +kernel
theorem zd19_17 : zD 19 17 .idiv 1 18 = true := by decide +kernel
theorem zd19_18 : zDk 19 18 21 8 0 = true := by decide +kernel
theorem zd19_21 : zD 19 21 (.aload_n 1) 1 22 = true := by decide +kernel
theorem zd19_22 : zD 19 22 (.aload_n 0) 1 23 = true := by decide +kernel
theorem zd19_23 : zDg 19 23 26 4 0 (.int) = true := by decide +kernel
theorem zd19_26 : zDc 19 26 29 (Int32.ofNat 256) = true := by decide +kernel
theorem zd19_29 : zD 19 29 .irem 1 30 = true := by decide +kernel
theorem zd19_30 : zDk 19 30 33 8 0 = true := by decide +kernel
theorem zd19_33 : zD 19 33 (.aload_n 1) 1 34 = true := by decide +kernel
theorem zd19_34 : zD 19 34 (.aload_n 0) 1 35 = true := by decide +kernel
theorem zd19_35 : zDg 19 35 38 4 1 (.array .int) = true := by decide +kernel
theorem zd19_38 : zDc 19 38 39 (Int32.ofNat 0) = true := by decide +kernel
theorem zd19_39 : zD 19 39 (.aload_n 0) 1 40 = true := by decide +kernel
theorem zd19_40 : zDg 19 40 43 4 2 (.int) = true := by decide +kernel
theorem zd19_43 : zDk 19 43 46 20 0 = true := by decide +kernel
theorem zd19_46 : zD 19 46 (.aload_n 1) 1 47 = true := by decide +kernel
theorem zd19_47 : zD 19 47 (.aload_n 2) 1 48 = true := by decide +kernel
theorem zd19_48 : zDk 19 48 51 7 0 = true := by decide +kernel
theorem zd19_51 : zD 19 51 .return_ 1 52 = true := by decide +kernel
theorem zd20_0 : zD 20 0 (.iload_n 2) 1 1 = true := by decide +kernel
theorem zd20_1 : zD 20 1 (.iload_n 3) 1 2 = true := by decide +kernel
theorem zd20_2 : zD 20 2 .iadd 1 3 = true := by decide +kernel
theorem zd20_3 : zD 20 3 (.aload_n 1) 1 4 = true := by decide +kernel
theorem zd20_4 : zD 20 4 .arraylength 1 5 = true := by decide +kernel
theorem zd20_5 : zDn 20 5 8 = true := by decide +kernel
theorem zd20_8 : zD 20 8 (.istore 4) 2 10 = true := by decide +kernel
theorem zd20_10 : zD 20 10 (.iload_n 2) 1 11 = true := by decide +kernel
theorem zd20_11 : zD 20 11 (.istore 5) 2 13 = true := by decide +kernel
theorem zd20_13 : zD 20 13 (.iload 5) 2 15 = true := by decide +kernel
theorem zd20_15 : zD 20 15 (.iload 4) 2 17 = true := by decide +kernel
theorem zd20_17 : zDm 20 17 .ge 34 20 = true := by decide +kernel
theorem zd20_20 : zD 20 20 (.aload_n 0) 1 21 = true := by decide +kernel
theorem zd20_21 : zD 20 21 (.aload_n 1) 1 22 = true := by decide +kernel
theorem zd20_22 : zD 20 22 (.iload 5) 2 24 = true := by decide +kernel
theorem zd20_24 : zD 20 24 .iaload 1 25 = true := by decide +kernel
theorem zd20_25 : zDk 20 25 28 8 0 = true := by decide +kernel
theorem zd20_28 : zDi 20 28 31 5 (Int32.ofNat 1) = true := by decide +kernel
theorem zd20_31 : zDj 20 31 13 = true := by decide +kernel
theorem zd20_34 : zD 20 34 .return_ 1 35 = true := by decide +kernel
theorem zd21_0 : zD 21 0 (.aload_n 0) 1 1 = true := by decide +kernel
theorem zd21_1 : zDg 21 1 4 3 1 (.array .int) = true := by decide +kernel
theorem zd21_4 : zD 21 4 (.iload_n 1) 1 5 = true := by decide +kernel
theorem zd21_5 : zD 21 5 .iaload 1 6 = true := by decide +kernel
theorem zd21_6 : zD 21 6 (.istore_n 3) 1 7 = true := by decide +kernel
theorem zd21_7 : zD 21 7 (.iload_n 3) 1 8 = true := by decide +kernel
theorem zd21_8 : zDc 21 8 9 (Int32.ofNat 2) = true := by decide +kernel
theorem zd21_9 : zD 21 9 .idiv 1 10 = true := by decide +kernel
theorem zd21_10 : zD 21 10 (.istore 4) 2 12 = true := by decide +kernel
theorem zd21_12 : zDc 21 12 13 (Int32.ofNat 0) = true := by decide +kernel
theorem zd21_13 : zD 21 13 (.istore 5) 2 15 = true := by decide +kernel
theorem zd21_15 : zD 21 15 (.iload 5) 2 17 = true := by decide +kernel
theorem zd21_17 : zD 21 17 (.iload 4) 2 19 = true := by decide +kernel
theorem zd21_19 : zDm 21 19 .ge 78 22 = true := by decide +kernel
theorem zd21_22 : zD 21 22 (.aload_n 2) 1 23 = true := by decide +kernel
theorem zd21_23 : zDk 21 23 26 6 0 = true := by decide +kernel
theorem zd21_26 : zD 21 26 (.aload_n 2) 1 27 = true := by decide +kernel
theorem zd21_27 : zDc 21 27 28 (Int32.ofNat 1) = true := by decide +kernel
theorem zd21_28 : zDk 21 28 31 8 0 = true := by decide +kernel
theorem zd21_31 : zD 21 31 (.aload_n 2) 1 32 = true := by decide +kernel
theorem zd21_32 : zD 21 32 (.aload_n 0) 1 33 = true := by decide +kernel
theorem zd21_33 : zD 21 33 (.iload_n 1) 1 34 = true := by decide +kernel
theorem zd21_34 : zDc 21 34 35 (Int32.ofNat 2) = true := by decide +kernel
theorem zd21_35 : zD 21 35 (.iload 5) 2 37 = true := by decide +kernel
theorem zd21_37 : zD 21 37 .imul 1 38 = true := by decide +kernel
theorem zd21_38 : zDk 21 38 41 17 0 = true := by decide +kernel
theorem zd21_41 : zDk 21 41 44 22 0 = true := by decide +kernel
theorem zd21_44 : zD 21 44 (.aload_n 2) 1 45 = true := by decide +kernel
theorem zd21_45 : zD 21 45 (.aload_n 0) 1 46 = true := by decide +kernel
theorem zd21_46 : zD 21 46 (.iload_n 1) 1 47 = true := by decide +kernel
theorem zd21_47 : zDc 21 47 48 (Int32.ofNat 2) = true := by decide +kernel
theorem zd21_48 : zD 21 48 (.iload 5) 2 50 = true := by decide +kernel
theorem zd21_50 : zD 21 50 .imul 1 51 = true := by decide +kernel
theorem zd21_51 : zDc 21 51 52 (Int32.ofNat 1) = true := by decide +kernel
theorem zd21_52 : zD 21 52 .iadd 1 53 = true := by decide +kernel
theorem zd21_53 : zDk 21 53 56 17 0 = true := by decide +kernel
theorem zd21_56 : zDk 21 56 59 22 0 = true := by decide +kernel
theorem zd21_59 : zD 21 59 (.aload_n 2) 1 60 = true := by decide +kernel
theorem zd21_60 : zD 21 60 (.aload_n 0) 1 61 = true := by decide +kernel
theorem zd21_61 : zD 21 61 (.iload_n 1) 1 62 = true := by decide +kernel
theorem zd21_62 : zDc 21 62 63 (Int32.ofNat 1) = true := by decide +kernel
theorem zd21_63 : zD 21 63 .iadd 1 64 = true := by decide +kernel
theorem zd21_64 : zD 21 64 (.iload 5) 2 66 = true := by decide +kernel
theorem zd21_66 : zDk 21 66 69 17 0 = true := by decide +kernel
theorem zd21_69 : zDk 21 69 72 7 0 = true := by decide +kernel
theorem zd21_72 : zDi 21 72 75 5 (Int32.ofNat 1) = true := by decide +kernel
theorem zd21_75 : zDj 21 75 15 = true := by decide +kernel
theorem zd21_78 : zD 21 78 (.iload_n 3) 1 79 = true := by decide +kernel
theorem zd21_79 : zDc 21 79 80 (Int32.ofNat 2) = true := by decide +kernel
theorem zd21_80 : zD 21 80 .irem 1 81 = true := by decide +kernel
theorem zd21_81 : zDc 21 81 82 (Int32.ofNat 1) = true := by decide +kernel
theorem zd21_82 : zDm 21 82 .ne 109 85 = true := by decide +kernel
theorem zd21_85 : zD 21 85 (.aload_n 0) 1 86 = true := by decide +kernel
theorem zd21_86 : zD 21 86 (.iload_n 1) 1 87 = true := by decide +kernel
theorem zd21_87 : zD 21 87 (.iload_n 3) 1 88 = true := by decide +kernel
theorem zd21_88 : zDc 21 88 89 (Int32.ofNat 1) = true := by decide +kernel
theorem zd21_89 : zD 21 89 .isub 1 90 = true := by decide +kernel
theorem zd21_90 : zDk 21 90 93 17 0 = true := by decide +kernel
theorem zd21_93 : zDc 21 93 94 (Int32.ofNat 0) = true := by decide +kernel
theorem zd21_94 : zD 21 94 (.aload_n 0) 1 95 = true := by decide +kernel
theorem zd21_95 : zD 21 95 (.iload_n 1) 1 96 = true := by decide +kernel
theorem zd21_96 : zDc 21 96 97 (Int32.ofNat 1) = true := by decide +kernel
theorem zd21_97 : zD 21 97 .iadd 1 98 = true := by decide +kernel
theorem zd21_98 : zD 21 98 (.iload 4) 2 100 = true := by decide +kernel
theorem zd21_100 : zDk 21 100 103 17 0 = true := by decide +kernel
theorem zd21_103 : zDc 21 103 104 (Int32.ofNat 0) = true := by decide +kernel
theorem zd21_104 : zDc 21 104 106 (Int32.ofNat 32) = true := by decide +kernel
theorem zd21_106 : zDy 21 106 109 = true := by decide +kernel
theorem zd21_109 : zD 21 109 (.aload_n 0) 1 110 = true := by decide +kernel
theorem zd21_110 : zDg 21 110 113 3 1 (.array .int) = true := by decide +kernel
theorem zd21_113 : zD 21 113 (.iload_n 1) 1 114 = true := by decide +kernel
theorem zd21_114 : zDc 21 114 115 (Int32.ofNat 1) = true := by decide +kernel
theorem zd21_115 : zD 21 115 .iadd 1 116 = true := by decide +kernel
theorem zd21_116 : zD 21 116 (.iload 4) 2 118 = true := by decide +kernel
theorem zd21_118 : zD 21 118 (.iload_n 3) 1 119 = true := by decide +kernel
theorem zd21_119 : zDc 21 119 120 (Int32.ofNat 2) = true := by decide +kernel
theorem zd21_120 : zD 21 120 .irem 1 121 = true := by decide +kernel
theorem zd21_121 : zD 21 121 .iadd 1 122 = true := by decide +kernel
theorem zd21_122 : zD 21 122 .iastore 1 123 = true := by decide +kernel
theorem zd21_123 : zD 21 123 .return_ 1 124 = true := by decide +kernel
theorem zd22_0 : zD 22 0 (.aload_n 1) 1 1 = true := by decide +kernel
theorem zd22_1 : zD 22 1 (.astore_n 2) 1 2 = true := by decide +kernel
theorem zd22_2 : zD 22 2 (.aload_n 2) 1 3 = true := by decide +kernel
theorem zd22_3 : zD 22 3 .arraylength 1 4 = true := by decide +kernel
theorem zd22_4 : zD 22 4 (.istore_n 3) 1 5 = true := by decide +kernel
theorem zd22_5 : zDc 22 5 6 (Int32.ofNat 0) = true := by decide +kernel
theorem zd22_6 : zD 22 6 (.istore 4) 2 8 = true := by decide +kernel
theorem zd22_8 : zD 22 8 (.iload 4) 2 10 = true := by decide +kernel
theorem zd22_10 : zD 22 10 (.iload_n 3) 1 11 = true := by decide +kernel
theorem zd22_11 : zDm 22 11 .ge 32 14 = true := by decide +kernel
theorem zd22_14 : zD 22 14 (.aload_n 2) 1 15 = true := by decide +kernel
theorem zd22_15 : zD 22 15 (.iload 4) 2 17 = true := by decide +kernel
theorem zd22_17 : zD 22 17 .iaload 1 18 = true := by decide +kernel
theorem zd22_18 : zD 22 18 (.istore 5) 2 20 = true := by decide +kernel
theorem zd22_20 : zD 22 20 (.aload_n 0) 1 21 = true := by decide +kernel
theorem zd22_21 : zD 22 21 (.iload 5) 2 23 = true := by decide +kernel
theorem zd22_23 : zDk 22 23 26 8 0 = true := by decide +kernel
theorem zd22_26 : zDi 22 26 29 4 (Int32.ofNat 1) = true := by decide +kernel
theorem zd22_29 : zDj 22 29 8 = true := by decide +kernel
theorem zd22_32 : zD 22 32 .return_ 1 33 = true := by decide +kernel
theorem zd23_0 : zD 23 0 (.aload_n 0) 1 1 = true := by decide +kernel
theorem zd23_1 : zD 23 1 (.aload_n 0) 1 2 = true := by decide +kernel
theorem zd23_2 : zDg 23 2 5 3 2 (.int) = true := by decide +kernel
theorem zd23_5 : zDc 23 5 6 (Int32.ofNat 0) = true := by decide +kernel
theorem zd23_6 : zDk 23 6 9 17 0 = true := by decide +kernel
theorem zd23_9 : zD 23 9 .areturn 1 10 = true := by decide +kernel
theorem zd24_0 : zD 24 0 (.iload_n 1) 1 1 = true := by decide +kernel
theorem zd24_1 : zDk 24 1 4 25 2 = true := by decide +kernel
theorem zd24_4 : zDf 24 4 .eq 22 7 = true := by decide +kernel
theorem zd24_7 : zD 24 7 (.aload_n 0) 1 8 = true := by decide +kernel
theorem zd24_8 : zDg 24 8 11 0 8 (.object "ReleaseLeaves$Claim") = true := by decide +kernel
theorem zd24_11 : zD 24 11 (.iload_n 1) 1 12 = true := by decide +kernel
theorem zd24_12 : zDk 24 12 15 26 0 = true := by decide +kernel
theorem zd24_15 : zDf 24 15 .eq 22 18 = true := by decide +kernel
theorem zd24_18 : zDc 24 18 19 (Int32.ofNat 1) = true := by decide +kernel
theorem zd24_19 : zDj 24 19 23 = true := by decide +kernel
theorem zd24_22 : zDc 24 22 23 (Int32.ofNat 0) = true := by decide +kernel
theorem zd24_23 : zD 24 23 .ireturn 1 24 = true := by decide +kernel
theorem zd25_0 : zD 25 0 (.iload_n 0) 1 1 = true := by decide +kernel
theorem zd25_1 : zDf 25 1 .lt 15 4 = true := by decide +kernel
theorem zd25_4 : zD 25 4 (.iload_n 0) 1 5 = true := by decide +kernel
theorem zd25_5 : zDc 25 5 8 (Int32.ofNat 255) = true := by decide +kernel
theorem zd25_8 : zDm 25 8 .gt 15 11 = true := by decide +kernel
theorem zd25_11 : zDc 25 11 12 (Int32.ofNat 1) = true := by decide +kernel
theorem zd25_12 : zDj 25 12 16 = true := by decide +kernel
theorem zd25_15 : zDc 25 15 16 (Int32.ofNat 0) = true := by decide +kernel
theorem zd25_16 : zD 25 16 .ireturn 1 17 = true := by decide +kernel
theorem zd26_0 : zD 26 0 (.aload_n 0) 1 1 = true := by decide +kernel
theorem zd26_1 : zDg 26 1 4 6 1 (.int) = true := by decide +kernel
theorem zd26_4 : zDc 26 4 7 (Int32.ofNat 300) = true := by decide +kernel
theorem zd26_7 : zDm 26 7 .lt 12 10 = true := by decide +kernel
theorem zd26_10 : zDc 26 10 11 (Int32.ofNat 0) = true := by decide +kernel
theorem zd26_11 : zD 26 11 .ireturn 1 12 = true := by decide +kernel
theorem zd26_12 : zD 26 12 (.aload_n 0) 1 13 = true := by decide +kernel
theorem zd26_13 : zDg 26 13 16 6 0 (.array .int) = true := by decide +kernel
theorem zd26_16 : zD 26 16 (.aload_n 0) 1 17 = true := by decide +kernel
theorem zd26_17 : zDg 26 17 20 6 1 (.int) = true := by decide +kernel
theorem zd26_20 : zD 26 20 (.iload_n 1) 1 21 = true := by decide +kernel
theorem zd26_21 : zD 26 21 .iastore 1 22 = true := by decide +kernel
theorem zd26_22 : zD 26 22 (.aload_n 0) 1 23 = true := by decide +kernel
theorem zd26_23 : zD 26 23 .dup 1 24 = true := by decide +kernel
theorem zd26_24 : zDg 26 24 27 6 1 (.int) = true := by decide +kernel
theorem zd26_27 : zDc 26 27 28 (Int32.ofNat 1) = true := by decide +kernel
theorem zd26_28 : zD 26 28 .iadd 1 29 = true := by decide +kernel
theorem zd26_29 : zDp 26 29 32 6 1 (.int) = true := by decide +kernel
theorem zd26_32 : zDc 26 32 33 (Int32.ofNat 1) = true := by decide +kernel
theorem zd26_33 : zD 26 33 .ireturn 1 34 = true := by decide +kernel
theorem zd27_0 : zD 27 0 (.aload_n 0) 1 1 = true := by decide +kernel
theorem zd27_1 : zDg 27 1 4 0 8 (.object "ReleaseLeaves$Claim") = true := by decide +kernel
theorem zd27_4 : zDk 27 4 7 28 0 = true := by decide +kernel
theorem zd27_7 : zDf 27 7 .eq 24 10 = true := by decide +kernel
theorem zd27_10 : zD 27 10 (.aload_n 0) 1 11 = true := by decide +kernel
theorem zd27_11 : zDg 27 11 14 0 8 (.object "ReleaseLeaves$Claim") = true := by decide +kernel
theorem zd27_14 : zDk 27 14 17 32 0 = true := by decide +kernel
theorem zd27_17 : zD 27 17 (.aload_n 0) 1 18 = true := by decide +kernel
theorem zd27_18 : zDg 27 18 21 0 2 (.int) = true := by decide +kernel
theorem zd27_21 : zDm 27 21 .lt 26 24 = true := by decide +kernel
theorem zd27_24 : zDc 27 24 25 (Int32.ofNat 0) = true := by decide +kernel
theorem zd27_25 : zD 27 25 .ireturn 1 26 = true := by decide +kernel
theorem zd27_26 : zD 27 26 (.aload_n 0) 1 27 = true := by decide +kernel
theorem zd27_27 : zDg 27 27 30 0 8 (.object "ReleaseLeaves$Claim") = true := by decide +kernel
theorem zd27_30 : zD 27 30 (.aload_n 0) 1 31 = true := by decide +kernel
theorem zd27_31 : zDg 27 31 34 0 0 (.object "ReleaseLeaves$Digester") = true := by decide +kernel
theorem zd27_34 : zD 27 34 (.aload_n 0) 1 35 = true := by decide +kernel
theorem zd27_35 : zDg 27 35 38 0 9 (.array .int) = true := by decide +kernel
theorem zd27_38 : zDk 27 38 41 33 0 = true := by decide +kernel
theorem zd27_41 : zD 27 41 (.aload_n 0) 1 42 = true := by decide +kernel
theorem zd27_42 : zDg 27 42 45 0 9 (.array .int) = true := by decide +kernel
theorem zd27_45 : zD 27 45 (.aload_n 0) 1 46 = true := by decide +kernel
theorem zd27_46 : zDg 27 46 49 0 1 (.array (.object "ReleaseLeaves$Release")) = true := by decide +kernel
theorem zd27_49 : zD 27 49 (.aload_n 0) 1 50 = true := by decide +kernel
theorem zd27_50 : zDg 27 50 53 0 8 (.object "ReleaseLeaves$Claim") = true := by decide +kernel
theorem zd27_53 : zDk 27 53 56 32 0 = true := by decide +kernel
theorem zd27_56 : zD 27 56 .aaload 1 57 = true := by decide +kernel
theorem zd27_57 : zDg 27 57 60 2 2 (.object "ReleaseLeaves$Tree") = true := by decide +kernel
theorem zd27_60 : zDk 27 60 63 23 0 = true := by decide +kernel
theorem zd27_63 : zDc 27 63 65 (Int32.ofNat 32) = true := by decide +kernel
theorem zd27_65 : zDk 27 65 68 35 2 = true := by decide +kernel
theorem zd27_68 : zDf 27 68 .eq 75 71 = true := by decide +kernel
theorem zd27_71 : zDc 27 71 72 (Int32.ofNat 1) = true := by decide +kernel
theorem zd27_72 : zDj 27 72 76 = true := by decide +kernel
theorem zd27_75 : zDc 27 75 76 (Int32.ofNat 0) = true := by decide +kernel
theorem zd27_76 : zD 27 76 .ireturn 1 77 = true := by decide +kernel
theorem zd28_0 : zD 28 0 (.aload_n 0) 1 1 = true := by decide +kernel
theorem zd28_1 : zDc 28 1 2 (Int32.ofNat 3) = true := by decide +kernel
theorem zd28_2 : zDk 28 2 5 29 0 = true := by decide +kernel
theorem zd28_5 : zDf 28 5 .eq 30 8 = true := by decide +kernel
theorem zd28_8 : zD 28 8 (.aload_n 0) 1 9 = true := by decide +kernel
theorem zd28_9 : zDg 28 9 12 6 0 (.array .int) = true := by decide +kernel
theorem zd28_12 : zDc 28 12 13 (Int32.ofNat 3) = true := by decide +kernel
theorem zd28_13 : zD 28 13 .iaload 1 14 = true := by decide +kernel
theorem zd28_14 : zDc 28 14 16 (Int32.ofNat 64) = true := by decide +kernel
theorem zd28_16 : zDm 28 16 .gt 30 19 = true := by decide +kernel
theorem zd28_19 : zD 28 19 (.aload_n 0) 1 20 = true := by decide +kernel
theorem zd28_20 : zD 28 20 (.aload_n 0) 1 21 = true := by decide +kernel
theorem zd28_21 : zDk 28 21 24 30 0 = true := by decide +kernel
theorem zd28_24 : zDk 28 24 27 29 0 = true := by decide +kernel
theorem zd28_27 : zDf 28 27 .ne 32 30 = true := by decide +kernel
theorem zd28_30 : zDc 28 30 31 (Int32.ofNat 0) = true := by decide +kernel
theorem zd28_31 : zD 28 31 .ireturn 1 32 = true := by decide +kernel
theorem zd28_32 : zD 28 32 (.aload_n 0) 1 33 = true := by decide +kernel
theorem zd28_33 : zDg 28 33 36 6 0 (.array .int) = true := by decide +kernel
theorem zd28_36 : zD 28 36 (.aload_n 0) 1 37 = true := by decide +kernel
theorem zd28_37 : zDk 28 37 40 30 0 = true := by decide +kernel
theorem zd28_40 : zD 28 40 .iaload 1 41 = true := by decide +kernel
theorem zd28_41 : zD 28 41 (.istore_n 1) 1 42 = true := by decide +kernel
theorem zd28_42 : zD 28 42 (.aload_n 0) 1 43 = true := by decide +kernel
theorem zd28_43 : zDg 28 43 46 6 1 (.int) = true := by decide +kernel
theorem zd28_46 : zD 28 46 (.aload_n 0) 1 47 = true := by decide +kernel
theorem zd28_47 : zD 28 47 (.iload_n 1) 1 48 = true := by decide +kernel
theorem zd28_48 : zDk 28 48 51 31 0 = true := by decide +kernel
theorem zd28_51 : zDm 28 51 .eq 56 54 = true := by decide +kernel
theorem zd28_54 : zDc 28 54 55 (Int32.ofNat 0) = true := by decide +kernel
theorem zd28_55 : zD 28 55 .ireturn 1 56 = true := by decide +kernel
theorem zd28_56 : zDc 28 56 57 (Int32.ofNat 0) = true := by decide +kernel
theorem zd28_57 : zD 28 57 (.istore_n 2) 1 58 = true := by decide +kernel
theorem zd28_58 : zD 28 58 (.iload_n 2) 1 59 = true := by decide +kernel
theorem zd28_59 : zD 28 59 (.iload_n 1) 1 60 = true := by decide +kernel
theorem zd28_60 : zDm 28 60 .ge 85 63 = true := by decide +kernel
theorem zd28_63 : zD 28 63 (.aload_n 0) 1 64 = true := by decide +kernel
theorem zd28_64 : zDg 28 64 67 6 0 (.array .int) = true := by decide +kernel
theorem zd28_67 : zD 28 67 (.aload_n 0) 1 68 = true := by decide +kernel
theorem zd28_68 : zD 28 68 (.iload_n 2) 1 69 = true := by decide +kernel
theorem zd28_69 : zDk 28 69 72 31 0 = true := by decide +kernel
theorem zd28_72 : zD 28 72 .iaload 1 73 = true := by decide +kernel
theorem zd28_73 : zDc 28 73 74 (Int32.ofNat 1) = true := by decide +kernel
theorem zd28_74 : zDm 28 74 .le 79 77 = true := by decide +kernel
theorem zd28_77 : zDc 28 77 78 (Int32.ofNat 0) = true := by decide +kernel
theorem zd28_78 : zD 28 78 .ireturn 1 79 = true := by decide +kernel
theorem zd28_79 : zDi 28 79 82 2 (Int32.ofNat 1) = true := by decide +kernel
theorem zd28_82 : zDj 28 82 58 = true := by decide +kernel
theorem zd28_85 : zDc 28 85 86 (Int32.ofNat 1) = true := by decide +kernel
theorem zd28_86 : zD 28 86 .ireturn 1 87 = true := by decide +kernel
theorem zd29_0 : zD 29 0 (.iload_n 1) 1 1 = true := by decide +kernel
theorem zd29_1 : zDf 29 1 .lt 16 4 = true := by decide +kernel
theorem zd29_4 : zD 29 4 (.iload_n 1) 1 5 = true := by decide +kernel
theorem zd29_5 : zD 29 5 (.aload_n 0) 1 6 = true := by decide +kernel
theorem zd29_6 : zDg 29 6 9 6 1 (.int) = true := by decide +kernel
theorem zd29_9 : zDm 29 9 .ge 16 12 = true := by decide +kernel
theorem zd29_12 : zDc 29 12 13 (Int32.ofNat 1) = true := by decide +kernel
theorem zd29_13 : zDj 29 13 17 = true := by decide +kernel
theorem zd29_16 : zDc 29 16 17 (Int32.ofNat 0) = true := by decide +kernel
theorem zd29_17 : zD 29 17 .ireturn 1 18 = true := by decide +kernel
theorem zd30_0 : zDc 30 0 1 (Int32.ofNat 4) = true := by decide +kernel
theorem zd30_1 : zD 30 1 (.aload_n 0) 1 2 = true := by decide +kernel
theorem zd30_2 : zDg 30 2 5 6 0 (.array .int) = true := by decide +kernel
theorem zd30_5 : zDc 30 5 6 (Int32.ofNat 3) = true := by decide +kernel
theorem zd30_6 : zD 30 6 .iaload 1 7 = true := by decide +kernel
theorem zd30_7 : zD 30 7 .iadd 1 8 = true := by decide +kernel
theorem zd30_8 : zD 30 8 .ireturn 1 9 = true := by decide +kernel
theorem zd31_0 : zD 31 0 (.aload_n 0) 1 1 = true := by decide +kernel
theorem zd31_1 : zDk 31 1 4 30 0 = true := by decide +kernel
theorem zd31_4 : zDc 31 4 5 (Int32.ofNat 1) = true := by decide +kernel
theorem zd31_5 : zD 31 5 .iadd 1 6 = true := by decide +kernel
theorem zd31_6 : zD 31 6 (.iload_n 1) 1 7 = true := by decide +kernel
theorem zd31_7 : zDc 31 7 9 (Int32.ofNat 33) = true := by decide +kernel
theorem zd31_9 : zD 31 9 .imul 1 10 = true := by decide +kernel
theorem zd31_10 : zD 31 10 .iadd 1 11 = true := by decide +kernel
theorem zd31_11 : zD 31 11 .ireturn 1 12 = true := by decide +kernel
theorem zd32_0 : zD 32 0 (.aload_n 0) 1 1 = true := by decide +kernel
theorem zd32_1 : zDg 32 1 4 6 0 (.array .int) = true := by decide +kernel
theorem zd32_4 : zDc 32 4 5 (Int32.ofNat 0) = true := by decide +kernel
theorem zd32_5 : zD 32 5 .iaload 1 6 = true := by decide +kernel
theorem zd32_6 : zD 32 6 .ireturn 1 7 = true := by decide +kernel
theorem zd33_0 : zD 33 0 (.aload_n 1) 1 1 = true := by decide +kernel
theorem zd33_1 : zDk 33 1 4 6 0 = true := by decide +kernel
theorem zd33_4 : zD 33 4 (.aload_n 1) 1 5 = true := by decide +kernel
theorem zd33_5 : zDc 33 5 6 (Int32.ofNat 0) = true := by decide +kernel
theorem zd33_6 : zDk 33 6 9 8 0 = true := by decide +kernel
theorem zd33_9 : zD 33 9 (.aload_n 1) 1 10 = true := by decide +kernel
theorem zd33_10 : zD 33 10 (.aload_n 0) 1 11 = true := by decide +kernel
theorem zd33_11 : zDg 33 11 14 6 0 (.array .int) = true := by decide +kernel
theorem zd33_14 : zDc 33 14 15 (Int32.ofNat 1) = true := by decide +kernel
theorem zd33_15 : zDc 33 15 16 (Int32.ofNat 2) = true := by decide +kernel
theorem zd33_16 : zDk 33 16 19 20 0 = true := by decide +kernel
theorem zd33_19 : zD 33 19 (.aload_n 1) 1 20 = true := by decide +kernel
theorem zd33_20 : zD 33 20 (.aload_n 0) 1 21 = true := by decide +kernel
theorem zd33_21 : zDg 33 21 24 6 0 (.array .int) = true := by decide +kernel
theorem zd33_24 : zDc 33 24 25 (Int32.ofNat 4) = true := by decide +kernel
theorem zd33_25 : zD 33 25 (.aload_n 0) 1 26 = true := by decide +kernel
theorem zd33_26 : zDg 33 26 29 6 0 (.array .int) = true := by decide +kernel
theorem zd33_29 : zDc 33 29 30 (Int32.ofNat 3) = true := by decide +kernel
theorem zd33_30 : zD 33 30 .iaload 1 31 = true := by decide +kernel
theorem zd33_31 : zDk 33 31 34 20 0 = true := by decide +kernel
theorem zd33_34 : zD 33 34 (.aload_n 1) 1 35 = true := by decide +kernel
theorem zd33_35 : zD 33 35 (.aload_n 2) 1 36 = true := by decide +kernel
theorem zd33_36 : zDk 33 36 39 7 0 = true := by decide +kernel
theorem zd33_39 : zD 33 39 (.aload_n 0) 1 40 = true := by decide +kernel
theorem zd33_40 : zDg 33 40 43 6 0 (.array .int) = true := by decide +kernel
theorem zd33_43 : zD 33 43 (.aload_n 0) 1 44 = true := by decide +kernel
theorem zd33_44 : zDk 33 44 47 30 0 = true := by decide +kernel
theorem zd33_47 : zD 33 47 .iaload 1 48 = true := by decide +kernel
theorem zd33_48 : zD 33 48 (.istore_n 3) 1 49 = true := by decide +kernel
theorem zd33_49 : zDc 33 49 50 (Int32.ofNat 0) = true := by decide +kernel
theorem zd33_50 : zD 33 50 (.istore 4) 2 52 = true := by decide +kernel
theorem zd33_52 : zD 33 52 (.iload 4) 2 54 = true := by decide +kernel
theorem zd33_54 : zD 33 54 (.iload_n 3) 1 55 = true := by decide +kernel
theorem zd33_55 : zDm 33 55 .ge 76 58 = true := by decide +kernel
theorem zd33_58 : zD 33 58 (.aload_n 0) 1 59 = true := by decide +kernel
theorem zd33_59 : zD 33 59 (.aload_n 0) 1 60 = true := by decide +kernel
theorem zd33_60 : zD 33 60 (.iload 4) 2 62 = true := by decide +kernel
theorem zd33_62 : zDk 33 62 65 31 0 = true := by decide +kernel
theorem zd33_65 : zD 33 65 (.aload_n 1) 1 66 = true := by decide +kernel
theorem zd33_66 : zD 33 66 (.aload_n 2) 1 67 = true := by decide +kernel
theorem zd33_67 : zDk 33 67 70 34 0 = true := by decide +kernel
theorem zd33_70 : zDi 33 70 73 4 (Int32.ofNat 1) = true := by decide +kernel
theorem zd33_73 : zDj 33 73 52 = true := by decide +kernel
theorem zd33_76 : zD 33 76 .return_ 1 77 = true := by decide +kernel
theorem zd34_0 : zD 34 0 (.aload_n 2) 1 1 = true := by decide +kernel
theorem zd34_1 : zDk 34 1 4 6 0 = true := by decide +kernel
theorem zd34_4 : zD 34 4 (.aload_n 2) 1 5 = true := by decide +kernel
theorem zd34_5 : zDc 34 5 6 (Int32.ofNat 1) = true := by decide +kernel
theorem zd34_6 : zDk 34 6 9 8 0 = true := by decide +kernel
theorem zd34_9 : zD 34 9 (.aload_n 0) 1 10 = true := by decide +kernel
theorem zd34_10 : zDg 34 10 13 6 0 (.array .int) = true := by decide +kernel
theorem zd34_13 : zD 34 13 (.iload_n 1) 1 14 = true := by decide +kernel
theorem zd34_14 : zD 34 14 .iaload 1 15 = true := by decide +kernel
theorem zd34_15 : zDf 34 15 .ne 39 18 = true := by decide +kernel
theorem zd34_18 : zD 34 18 (.aload_n 2) 1 19 = true := by decide +kernel
theorem zd34_19 : zD 34 19 (.aload_n 0) 1 20 = true := by decide +kernel
theorem zd34_20 : zDg 34 20 23 6 0 (.array .int) = true := by decide +kernel
theorem zd34_23 : zD 34 23 (.iload_n 1) 1 24 = true := by decide +kernel
theorem zd34_24 : zDc 34 24 25 (Int32.ofNat 1) = true := by decide +kernel
theorem zd34_25 : zD 34 25 .iadd 1 26 = true := by decide +kernel
theorem zd34_26 : zDc 34 26 28 (Int32.ofNat 32) = true := by decide +kernel
theorem zd34_28 : zDk 34 28 31 20 0 = true := by decide +kernel
theorem zd34_31 : zD 34 31 (.aload_n 2) 1 32 = true := by decide +kernel
theorem zd34_32 : zD 34 32 (.aload_n 3) 1 33 = true := by decide +kernel
theorem zd34_33 : zDk 34 33 36 22 0 = true := by decide +kernel
theorem zd34_36 : zDj 34 36 57 = true := by decide +kernel
theorem zd34_39 : zD 34 39 (.aload_n 2) 1 40 = true := by decide +kernel
theorem zd34_40 : zD 34 40 (.aload_n 3) 1 41 = true := by decide +kernel
theorem zd34_41 : zDk 34 41 44 22 0 = true := by decide +kernel
theorem zd34_44 : zD 34 44 (.aload_n 2) 1 45 = true := by decide +kernel
theorem zd34_45 : zD 34 45 (.aload_n 0) 1 46 = true := by decide +kernel
theorem zd34_46 : zDg 34 46 49 6 0 (.array .int) = true := by decide +kernel
theorem zd34_49 : zD 34 49 (.iload_n 1) 1 50 = true := by decide +kernel
theorem zd34_50 : zDc 34 50 51 (Int32.ofNat 1) = true := by decide +kernel
theorem zd34_51 : zD 34 51 .iadd 1 52 = true := by decide +kernel
theorem zd34_52 : zDc 34 52 54 (Int32.ofNat 32) = true := by decide +kernel
theorem zd34_54 : zDk 34 54 57 20 0 = true := by decide +kernel
theorem zd34_57 : zD 34 57 (.aload_n 2) 1 58 = true := by decide +kernel
theorem zd34_58 : zD 34 58 (.aload_n 3) 1 59 = true := by decide +kernel
theorem zd34_59 : zDk 34 59 62 7 0 = true := by decide +kernel
theorem zd34_62 : zD 34 62 .return_ 1 63 = true := by decide +kernel
theorem zd35_0 : zD 35 0 (.iload_n 2) 1 1 = true := by decide +kernel
theorem zd35_1 : zD 35 1 (.aload_n 0) 1 2 = true := by decide +kernel
theorem zd35_2 : zD 35 2 .arraylength 1 3 = true := by decide +kernel
theorem zd35_3 : zDm 35 3 .gt 12 6 = true := by decide +kernel
theorem zd35_6 : zD 35 6 (.iload_n 2) 1 7 = true := by decide +kernel
theorem zd35_7 : zD 35 7 (.aload_n 1) 1 8 = true := by decide +kernel
theorem zd35_8 : zD 35 8 .arraylength 1 9 = true := by decide +kernel
theorem zd35_9 : zDm 35 9 .le 14 12 = true := by decide +kernel
theorem zd35_12 : zDc 35 12 13 (Int32.ofNat 0) = true := by decide +kernel
theorem zd35_13 : zD 35 13 .ireturn 1 14 = true := by decide +kernel
theorem zd35_14 : zDc 35 14 15 (Int32.ofNat 0) = true := by decide +kernel
theorem zd35_15 : zD 35 15 (.istore_n 3) 1 16 = true := by decide +kernel
theorem zd35_16 : zD 35 16 (.iload_n 3) 1 17 = true := by decide +kernel
theorem zd35_17 : zD 35 17 (.iload_n 2) 1 18 = true := by decide +kernel
theorem zd35_18 : zDm 35 18 .ge 38 21 = true := by decide +kernel
theorem zd35_21 : zD 35 21 (.aload_n 0) 1 22 = true := by decide +kernel
theorem zd35_22 : zD 35 22 (.iload_n 3) 1 23 = true := by decide +kernel
theorem zd35_23 : zD 35 23 .iaload 1 24 = true := by decide +kernel
theorem zd35_24 : zD 35 24 (.aload_n 1) 1 25 = true := by decide +kernel
theorem zd35_25 : zD 35 25 (.iload_n 3) 1 26 = true := by decide +kernel
theorem zd35_26 : zD 35 26 .iaload 1 27 = true := by decide +kernel
theorem zd35_27 : zDm 35 27 .eq 32 30 = true := by decide +kernel
theorem zd35_30 : zDc 35 30 31 (Int32.ofNat 0) = true := by decide +kernel
theorem zd35_31 : zD 35 31 .ireturn 1 32 = true := by decide +kernel
theorem zd35_32 : zDi 35 32 35 3 (Int32.ofNat 1) = true := by decide +kernel
theorem zd35_35 : zDj 35 35 16 = true := by decide +kernel
theorem zd35_38 : zDc 35 38 39 (Int32.ofNat 1) = true := by decide +kernel
theorem zd35_39 : zD 35 39 .ireturn 1 40 = true := by decide +kernel
theorem zd36_0 : zD 36 0 (.aload_n 0) 1 1 = true := by decide +kernel
theorem zd36_1 : zDg 36 1 4 0 2 (.int) = true := by decide +kernel
theorem zd36_4 : zD 36 4 .ireturn 1 5 = true := by decide +kernel
theorem zd37_0 : zD 37 0 (.aload_n 0) 1 1 = true := by decide +kernel
theorem zd37_1 : zDg 37 1 4 0 8 (.object "ReleaseLeaves$Claim") = true := by decide +kernel
theorem zd37_4 : zDk 37 4 7 38 0 = true := by decide +kernel
theorem zd37_7 : zD 37 7 .return_ 1 8 = true := by decide +kernel
theorem zd38_0 : zD 38 0 (.aload_n 0) 1 1 = true := by decide +kernel
theorem zd38_1 : zDc 38 1 2 (Int32.ofNat 0) = true := by decide +kernel
theorem zd38_2 : zDp 38 2 5 6 1 (.int) = true := by decide +kernel
theorem zd38_5 : zD 38 5 .return_ 1 6 = true := by decide +kernel
theorem zd40_0 : zD 40 0 (.iload_n 1) 1 1 = true := by decide +kernel
theorem zd40_1 : zDf 40 1 .lt 10 4 = true := by decide +kernel
theorem zd40_4 : zD 40 4 (.iload_n 1) 1 5 = true := by decide +kernel
theorem zd40_5 : zDc 40 5 7 (Int32.ofNat 65535) = true := by decide +kernel
theorem zd40_7 : zDm 40 7 .le 20 10 = true := by decide +kernel
theorem zd40_10 : zDx 40 10 0 = true := by decide +kernel
theorem zd40_13 : zD 40 13 .dup 1 14 = true := by decide +kernel
theorem zd40_20 : zD 40 20 (.aload_n 0) 1 21 = true := by decide +kernel
theorem zd40_21 : zDg 40 21 24 0 1 (.array (.object "ReleaseLeaves$Release")) = true := by decide +kernel
theorem zd40_24 : zD 40 24 (.aload_n 0) 1 25 = true := by decide +kernel
theorem zd40_25 : zDg 40 25 28 0 2 (.int) = true := by decide +kernel
theorem zd40_28 : zD 40 28 .aaload 1 29 = true := by decide +kernel
theorem zd40_29 : zD 40 29 (.iload_n 1) 1 30 = true := by decide +kernel
theorem zd40_30 : zDk 40 30 33 41 0 = true := by decide +kernel
theorem zd40_33 : zD 40 33 .ireturn 1 34 = true := by decide +kernel
theorem zd41_0 : zD 41 0 (.aload_n 0) 1 1 = true := by decide +kernel
theorem zd41_1 : zDg 41 1 4 2 1 (.int) = true := by decide +kernel
theorem zd41_4 : zDc 41 4 6 (Int32.ofNat 8) = true := by decide +kernel
theorem zd41_6 : zDm 41 6 .ge 18 9 = true := by decide +kernel
theorem zd41_9 : zD 41 9 (.aload_n 0) 1 10 = true := by decide +kernel
theorem zd41_10 : zD 41 10 (.iload_n 1) 1 11 = true := by decide +kernel
theorem zd41_11 : zDk 41 11 14 42 0 = true := by decide +kernel
theorem zd41_14 : zDc 41 14 15 (-1) = true := by decide +kernel
theorem zd41_15 : zDm 41 15 .eq 20 18 = true := by decide +kernel
theorem zd41_18 : zDc 41 18 19 (-1) = true := by decide +kernel
theorem zd41_19 : zD 41 19 .ireturn 1 20 = true := by decide +kernel
theorem zd41_20 : zD 41 20 (.aload_n 0) 1 21 = true := by decide +kernel
theorem zd41_21 : zDg 41 21 24 2 1 (.int) = true := by decide +kernel
theorem zd41_24 : zD 41 24 (.istore_n 2) 1 25 = true := by decide +kernel
theorem zd41_25 : zD 41 25 (.aload_n 0) 1 26 = true := by decide +kernel
theorem zd41_26 : zDg 41 26 29 2 0 (.array (.object "ReleaseLeaves$StoredFile")) = true := by decide +kernel
theorem zd41_29 : zD 41 29 (.iload_n 2) 1 30 = true := by decide +kernel
theorem zd41_30 : zD 41 30 .aaload 1 31 = true := by decide +kernel
theorem zd41_31 : zD 41 31 (.iload_n 1) 1 32 = true := by decide +kernel
theorem zd41_32 : zDp 41 32 35 4 0 (.int) = true := by decide +kernel
theorem zd41_35 : zD 41 35 (.aload_n 0) 1 36 = true := by decide +kernel
theorem zd41_36 : zD 41 36 (.iload_n 2) 1 37 = true := by decide +kernel
theorem zd41_37 : zDc 41 37 38 (Int32.ofNat 1) = true := by decide +kernel
theorem zd41_38 : zD 41 38 .iadd 1 39 = true := by decide +kernel
theorem zd41_39 : zDp 41 39 42 2 1 (.int) = true := by decide +kernel
theorem zd41_42 : zD 41 42 (.iload_n 2) 1 43 = true := by decide +kernel
theorem zd41_43 : zD 41 43 .ireturn 1 44 = true := by decide +kernel
theorem zd42_0 : zDc 42 0 1 (Int32.ofNat 0) = true := by decide +kernel
theorem zd42_1 : zD 42 1 (.istore_n 2) 1 2 = true := by decide +kernel
theorem zd42_2 : zD 42 2 (.iload_n 2) 1 3 = true := by decide +kernel
theorem zd42_3 : zD 42 3 (.aload_n 0) 1 4 = true := by decide +kernel
theorem zd42_4 : zDg 42 4 7 2 1 (.int) = true := by decide +kernel
theorem zd42_7 : zDm 42 7 .ge 31 10 = true := by decide +kernel
theorem zd42_10 : zD 42 10 (.aload_n 0) 1 11 = true := by decide +kernel
theorem zd42_11 : zDg 42 11 14 2 0 (.array (.object "ReleaseLeaves$StoredFile")) = true := by decide +kernel
theorem zd42_14 : zD 42 14 (.iload_n 2) 1 15 = true := by decide +kernel
theorem zd42_15 : zD 42 15 .aaload 1 16 = true := by decide +kernel
theorem zd42_16 : zDg 42 16 19 4 0 (.int) = true := by decide +kernel
theorem zd42_19 : zD 42 19 (.iload_n 1) 1 20 = true := by decide +kernel
theorem zd42_20 : zDm 42 20 .ne 25 23 = true := by decide +kernel
theorem zd42_23 : zD 42 23 (.iload_n 2) 1 24 = true := by decide +kernel
theorem zd42_24 : zD 42 24 .ireturn 1 25 = true := by decide +kernel
theorem zd42_25 : zDi 42 25 28 2 (Int32.ofNat 1) = true := by decide +kernel
theorem zd42_28 : zDj 42 28 2 = true := by decide +kernel
theorem zd42_31 : zDc 42 31 32 (-1) = true := by decide +kernel
theorem zd42_32 : zD 42 32 .ireturn 1 33 = true := by decide +kernel
theorem zd44_0 : zD 44 0 (.aload_n 0) 1 1 = true := by decide +kernel
theorem zd44_1 : zDg 44 1 4 0 1 (.array (.object "ReleaseLeaves$Release")) = true := by decide +kernel
theorem zd44_4 : zD 44 4 (.aload_n 0) 1 5 = true := by decide +kernel
theorem zd44_5 : zDg 44 5 8 0 2 (.int) = true := by decide +kernel
theorem zd44_8 : zD 44 8 .aaload 1 9 = true := by decide +kernel
theorem zd44_9 : zD 44 9 (.astore_n 3) 1 10 = true := by decide +kernel
theorem zd44_10 : zD 44 10 (.aload_n 3) 1 11 = true := by decide +kernel
theorem zd44_11 : zD 44 11 (.iload_n 1) 1 12 = true := by decide +kernel
theorem zd44_12 : zDk 44 12 15 45 0 = true := by decide +kernel
theorem zd44_15 : zDf 44 15 .ne 28 18 = true := by decide +kernel
theorem zd44_18 : zDx 44 18 1 = true := by decide +kernel
theorem zd44_21 : zD 44 21 .dup 1 22 = true := by decide +kernel
theorem zd44_28 : zD 44 28 (.iload_n 2) 1 29 = true := by decide +kernel
theorem zd44_29 : zDk 44 29 32 25 2 = true := by decide +kernel
theorem zd44_32 : zDf 44 32 .ne 45 35 = true := by decide +kernel
theorem zd44_35 : zDx 44 35 0 = true := by decide +kernel
theorem zd44_38 : zD 44 38 .dup 1 39 = true := by decide +kernel
theorem zd44_45 : zD 44 45 (.aload_n 3) 1 46 = true := by decide +kernel
theorem zd44_46 : zDg 44 46 49 2 0 (.array (.object "ReleaseLeaves$StoredFile")) = true := by decide +kernel
theorem zd44_49 : zD 44 49 (.iload_n 1) 1 50 = true := by decide +kernel
theorem zd44_50 : zD 44 50 .aaload 1 51 = true := by decide +kernel
theorem zd44_51 : zD 44 51 (.iload_n 2) 1 52 = true := by decide +kernel
theorem zd44_52 : zDk 44 52 55 46 0 = true := by decide +kernel
theorem zd44_55 : zD 44 55 .ireturn 1 56 = true := by decide +kernel
theorem zd45_0 : zD 45 0 (.iload_n 1) 1 1 = true := by decide +kernel
theorem zd45_1 : zDf 45 1 .lt 16 4 = true := by decide +kernel
theorem zd45_4 : zD 45 4 (.iload_n 1) 1 5 = true := by decide +kernel
theorem zd45_5 : zD 45 5 (.aload_n 0) 1 6 = true := by decide +kernel
theorem zd45_6 : zDg 45 6 9 2 1 (.int) = true := by decide +kernel
theorem zd45_9 : zDm 45 9 .ge 16 12 = true := by decide +kernel
theorem zd45_12 : zDc 45 12 13 (Int32.ofNat 1) = true := by decide +kernel
theorem zd45_13 : zDj 45 13 17 = true := by decide +kernel
theorem zd45_16 : zDc 45 16 17 (Int32.ofNat 0) = true := by decide +kernel
theorem zd45_17 : zD 45 17 .ireturn 1 18 = true := by decide +kernel
theorem zd46_0 : zD 46 0 (.aload_n 0) 1 1 = true := by decide +kernel
theorem zd46_1 : zDg 46 1 4 4 2 (.int) = true := by decide +kernel
theorem zd46_4 : zDc 46 4 6 (Int32.ofNat 64) = true := by decide +kernel
theorem zd46_6 : zDm 46 6 .lt 11 9 = true := by decide +kernel
theorem zd46_9 : zDc 46 9 10 (Int32.ofNat 0) = true := by decide +kernel
theorem zd46_10 : zD 46 10 .ireturn 1 11 = true := by decide +kernel
theorem zd46_11 : zD 46 11 (.aload_n 0) 1 12 = true := by decide +kernel
theorem zd46_12 : zDg 46 12 15 4 1 (.array .int) = true := by decide +kernel
theorem zd46_15 : zD 46 15 (.aload_n 0) 1 16 = true := by decide +kernel
theorem zd46_16 : zDg 46 16 19 4 2 (.int) = true := by decide +kernel
theorem zd46_19 : zD 46 19 (.iload_n 1) 1 20 = true := by decide +kernel
theorem zd46_20 : zD 46 20 .iastore 1 21 = true := by decide +kernel
theorem zd46_21 : zD 46 21 (.aload_n 0) 1 22 = true := by decide +kernel
theorem zd46_22 : zD 46 22 .dup 1 23 = true := by decide +kernel
theorem zd46_23 : zDg 46 23 26 4 2 (.int) = true := by decide +kernel
theorem zd46_26 : zDc 46 26 27 (Int32.ofNat 1) = true := by decide +kernel
theorem zd46_27 : zD 46 27 .iadd 1 28 = true := by decide +kernel
theorem zd46_28 : zDp 46 28 31 4 2 (.int) = true := by decide +kernel
theorem zd46_31 : zDc 46 31 32 (Int32.ofNat 1) = true := by decide +kernel
theorem zd46_32 : zD 46 32 .ireturn 1 33 = true := by decide +kernel
theorem zd48_0 : zD 48 0 (.aload_n 0) 1 1 = true := by decide +kernel
theorem zd48_1 : zD 48 1 (.iload_n 1) 1 2 = true := by decide +kernel
theorem zd48_2 : zDk 48 2 5 49 0 = true := by decide +kernel
theorem zd48_5 : zD 48 5 (.astore_n 3) 1 6 = true := by decide +kernel
theorem zd48_6 : zD 48 6 (.iload_n 2) 1 7 = true := by decide +kernel
theorem zd48_7 : zDk 48 7 10 50 2 = true := by decide +kernel
theorem zd48_10 : zD 48 10 (.aload_n 3) 1 11 = true := by decide +kernel
theorem zd48_11 : zDg 48 11 14 2 2 (.object "ReleaseLeaves$Tree") = true := by decide +kernel
theorem zd48_14 : zDk 48 14 17 23 0 = true := by decide +kernel
theorem zd48_17 : zD 48 17 (.iload_n 2) 1 18 = true := by decide +kernel
theorem zd48_18 : zD 48 18 .iaload 1 19 = true := by decide +kernel
theorem zd48_19 : zD 48 19 .ireturn 1 20 = true := by decide +kernel
theorem zd49_0 : zD 49 0 (.iload_n 1) 1 1 = true := by decide +kernel
theorem zd49_1 : zDf 49 1 .lt 12 4 = true := by decide +kernel
theorem zd49_4 : zD 49 4 (.iload_n 1) 1 5 = true := by decide +kernel
theorem zd49_5 : zD 49 5 (.aload_n 0) 1 6 = true := by decide +kernel
theorem zd49_6 : zDg 49 6 9 0 2 (.int) = true := by decide +kernel
theorem zd49_9 : zDm 49 9 .lt 22 12 = true := by decide +kernel
theorem zd49_12 : zDx 49 12 1 = true := by decide +kernel
theorem zd49_15 : zD 49 15 .dup 1 16 = true := by decide +kernel
theorem zd49_22 : zD 49 22 (.aload_n 0) 1 23 = true := by decide +kernel
theorem zd49_23 : zDg 49 23 26 0 1 (.array (.object "ReleaseLeaves$Release")) = true := by decide +kernel
theorem zd49_26 : zD 49 26 (.iload_n 1) 1 27 = true := by decide +kernel
theorem zd49_27 : zD 49 27 .aaload 1 28 = true := by decide +kernel
theorem zd49_28 : zD 49 28 .areturn 1 29 = true := by decide +kernel
theorem zd50_0 : zD 50 0 (.iload_n 0) 1 1 = true := by decide +kernel
theorem zd50_1 : zDf 50 1 .lt 10 4 = true := by decide +kernel
theorem zd50_4 : zD 50 4 (.iload_n 0) 1 5 = true := by decide +kernel
theorem zd50_5 : zDc 50 5 7 (Int32.ofNat 32) = true := by decide +kernel
theorem zd50_7 : zDm 50 7 .lt 20 10 = true := by decide +kernel
theorem zd50_10 : zDx 50 10 1 = true := by decide +kernel
theorem zd50_13 : zD 50 13 .dup 1 14 = true := by decide +kernel
theorem zd50_20 : zD 50 20 .return_ 1 21 = true := by decide +kernel
theorem zd52_0 : zD 52 0 (.aload_n 0) 1 1 = true := by decide +kernel
theorem zd52_1 : zD 52 1 (.iload_n 1) 1 2 = true := by decide +kernel
theorem zd52_2 : zD 52 2 (.iload_n 2) 1 3 = true := by decide +kernel
theorem zd52_3 : zDk 52 3 6 53 0 = true := by decide +kernel
theorem zd52_6 : zD 52 6 (.astore 4) 2 8 = true := by decide +kernel
theorem zd52_8 : zD 52 8 (.iload_n 3) 1 9 = true := by decide +kernel
theorem zd52_9 : zDf 52 9 .ge 22 12 = true := by decide +kernel
theorem zd52_12 : zDx 52 12 1 = true := by decide +kernel
theorem zd52_15 : zD 52 15 .dup 1 16 = true := by decide +kernel
theorem zd52_22 : zD 52 22 (.aload 4) 2 24 = true := by decide +kernel
theorem zd52_24 : zDg 52 24 27 2 2 (.object "ReleaseLeaves$Tree") = true := by decide +kernel
theorem zd52_27 : zD 52 27 (.iload_n 2) 1 28 = true := by decide +kernel
theorem zd52_28 : zD 52 28 (.iload_n 3) 1 29 = true := by decide +kernel
theorem zd52_29 : zDk 52 29 32 54 0 = true := by decide +kernel
theorem zd52_32 : zD 52 32 .ireturn 1 33 = true := by decide +kernel
theorem zd53_0 : zD 53 0 (.aload_n 0) 1 1 = true := by decide +kernel
theorem zd53_1 : zD 53 1 (.iload_n 1) 1 2 = true := by decide +kernel
theorem zd53_2 : zDk 53 2 5 49 0 = true := by decide +kernel
theorem zd53_5 : zD 53 5 (.astore_n 3) 1 6 = true := by decide +kernel
theorem zd53_6 : zD 53 6 (.aload_n 3) 1 7 = true := by decide +kernel
theorem zd53_7 : zD 53 7 (.iload_n 2) 1 8 = true := by decide +kernel
theorem zd53_8 : zDk 53 8 11 45 0 = true := by decide +kernel
theorem zd53_11 : zDf 53 11 .ne 24 14 = true := by decide +kernel
theorem zd53_14 : zDx 53 14 1 = true := by decide +kernel
theorem zd53_17 : zD 53 17 .dup 1 18 = true := by decide +kernel
theorem zd53_24 : zD 53 24 (.aload_n 3) 1 25 = true := by decide +kernel
theorem zd53_25 : zD 53 25 .areturn 1 26 = true := by decide +kernel
theorem zd54_0 : zD 54 0 (.iload_n 2) 1 1 = true := by decide +kernel
theorem zd54_1 : zDf 54 1 .ne 10 4 = true := by decide +kernel
theorem zd54_4 : zD 54 4 (.aload_n 0) 1 5 = true := by decide +kernel
theorem zd54_5 : zD 54 5 (.iload_n 1) 1 6 = true := by decide +kernel
theorem zd54_6 : zDk 54 6 9 55 0 = true := by decide +kernel
theorem zd54_9 : zD 54 9 .ireturn 1 10 = true := by decide +kernel
theorem zd54_10 : zD 54 10 (.aload_n 0) 1 11 = true := by decide +kernel
theorem zd54_11 : zD 54 11 (.iload_n 1) 1 12 = true := by decide +kernel
theorem zd54_12 : zD 54 12 (.iload_n 2) 1 13 = true := by decide +kernel
theorem zd54_13 : zDc 54 13 14 (Int32.ofNat 1) = true := by decide +kernel
theorem zd54_14 : zD 54 14 .isub 1 15 = true := by decide +kernel
theorem zd54_15 : zDc 54 15 17 (Int32.ofNat 33) = true := by decide +kernel
theorem zd54_17 : zD 54 17 .idiv 1 18 = true := by decide +kernel
theorem zd54_18 : zDk 54 18 21 58 0 = true := by decide +kernel
theorem zd54_21 : zD 54 21 (.istore_n 3) 1 22 = true := by decide +kernel
theorem zd54_22 : zD 54 22 (.iload_n 3) 1 23 = true := by decide +kernel
theorem zd54_23 : zDc 54 23 24 (-1) = true := by decide +kernel
theorem zd54_24 : zDm 54 24 .ne 29 27 = true := by decide +kernel
theorem zd54_27 : zDc 54 27 28 (-1) = true := by decide +kernel
theorem zd54_28 : zD 54 28 .ireturn 1 29 = true := by decide +kernel
theorem zd54_29 : zD 54 29 (.iload_n 2) 1 30 = true := by decide +kernel
theorem zd54_30 : zDc 54 30 31 (Int32.ofNat 1) = true := by decide +kernel
theorem zd54_31 : zD 54 31 .isub 1 32 = true := by decide +kernel
theorem zd54_32 : zDc 54 32 34 (Int32.ofNat 33) = true := by decide +kernel
theorem zd54_34 : zD 54 34 .irem 1 35 = true := by decide +kernel
theorem zd54_35 : zD 54 35 (.istore 4) 2 37 = true := by decide +kernel
theorem zd54_37 : zD 54 37 (.iload_n 1) 1 38 = true := by decide +kernel
theorem zd54_38 : zD 54 38 (.iload_n 3) 1 39 = true := by decide +kernel
theorem zd54_39 : zD 54 39 .ishr 1 40 = true := by decide +kernel
theorem zd54_40 : zD 54 40 (.istore 5) 2 42 = true := by decide +kernel
theorem zd54_42 : zD 54 42 (.iload 5) 2 44 = true := by decide +kernel
theorem zd54_44 : zDk 54 44 47 57 2 = true := by decide +kernel
theorem zd54_47 : zD 54 47 (.istore 6) 2 49 = true := by decide +kernel
theorem zd54_49 : zD 54 49 (.iload 4) 2 51 = true := by decide +kernel
theorem zd54_51 : zDf 54 51 .ne 67 54 = true := by decide +kernel
theorem zd54_54 : zD 54 54 (.iload 6) 2 56 = true := by decide +kernel
theorem zd54_56 : zD 54 56 (.iload 5) 2 58 = true := by decide +kernel
theorem zd54_58 : zDm 54 58 .ge 65 61 = true := by decide +kernel
theorem zd54_61 : zDc 54 61 62 (Int32.ofNat 0) = true := by decide +kernel
theorem zd54_62 : zDj 54 62 66 = true := by decide +kernel
theorem zd54_65 : zDc 54 65 66 (Int32.ofNat 1) = true := by decide +kernel
theorem zd54_66 : zD 54 66 .ireturn 1 67 = true := by decide +kernel
theorem zd54_67 : zD 54 67 (.aload_n 0) 1 68 = true := by decide +kernel
theorem zd54_68 : zD 54 68 (.iload_n 3) 1 69 = true := by decide +kernel
theorem zd54_69 : zD 54 69 (.iload 6) 2 71 = true := by decide +kernel
theorem zd54_71 : zDk 54 71 74 17 0 = true := by decide +kernel
theorem zd54_74 : zD 54 74 (.iload 4) 2 76 = true := by decide +kernel
theorem zd54_76 : zDc 54 76 77 (Int32.ofNat 1) = true := by decide +kernel
theorem zd54_77 : zD 54 77 .isub 1 78 = true := by decide +kernel
theorem zd54_78 : zD 54 78 .iaload 1 79 = true := by decide +kernel
theorem zd54_79 : zD 54 79 .ireturn 1 80 = true := by decide +kernel
theorem zd55_0 : zDc 55 0 1 (Int32.ofNat 0) = true := by decide +kernel
theorem zd55_1 : zD 55 1 (.istore_n 2) 1 2 = true := by decide +kernel
theorem zd55_2 : zDc 55 2 3 (Int32.ofNat 0) = true := by decide +kernel
theorem zd55_3 : zD 55 3 (.istore_n 3) 1 4 = true := by decide +kernel
theorem zd55_4 : zD 55 4 (.iload_n 3) 1 5 = true := by decide +kernel
theorem zd55_5 : zD 55 5 (.aload_n 0) 1 6 = true := by decide +kernel
theorem zd55_6 : zDg 55 6 9 3 2 (.int) = true := by decide +kernel
theorem zd55_9 : zDm 55 9 .ge 30 12 = true := by decide +kernel
theorem zd55_12 : zD 55 12 (.aload_n 0) 1 13 = true := by decide +kernel
theorem zd55_13 : zD 55 13 (.iload_n 1) 1 14 = true := by decide +kernel
theorem zd55_14 : zD 55 14 (.iload_n 3) 1 15 = true := by decide +kernel
theorem zd55_15 : zDk 55 15 18 56 0 = true := by decide +kernel
theorem zd55_18 : zDf 55 18 .eq 24 21 = true := by decide +kernel
theorem zd55_21 : zDi 55 21 24 2 (Int32.ofNat 1) = true := by decide +kernel
theorem zd55_24 : zDi 55 24 27 3 (Int32.ofNat 1) = true := by decide +kernel
theorem zd55_27 : zDj 55 27 4 = true := by decide +kernel
theorem zd55_30 : zD 55 30 (.iload_n 2) 1 31 = true := by decide +kernel
theorem zd55_31 : zD 55 31 .ireturn 1 32 = true := by decide +kernel
theorem zd56_0 : zD 56 0 (.iload_n 1) 1 1 = true := by decide +kernel
theorem zd56_1 : zD 56 1 (.iload_n 2) 1 2 = true := by decide +kernel
theorem zd56_2 : zD 56 2 .ishr 1 3 = true := by decide +kernel
theorem zd56_3 : zDk 56 3 6 57 2 = true := by decide +kernel
theorem zd56_6 : zD 56 6 (.aload_n 0) 1 7 = true := by decide +kernel
theorem zd56_7 : zDg 56 7 10 3 1 (.array .int) = true := by decide +kernel
theorem zd56_10 : zD 56 10 (.iload_n 2) 1 11 = true := by decide +kernel
theorem zd56_11 : zD 56 11 .iaload 1 12 = true := by decide +kernel
theorem zd56_12 : zDm 56 12 .ge 19 15 = true := by decide +kernel
theorem zd56_15 : zDc 56 15 16 (Int32.ofNat 1) = true := by decide +kernel
theorem zd56_16 : zDj 56 16 20 = true := by decide +kernel
theorem zd56_19 : zDc 56 19 20 (Int32.ofNat 0) = true := by decide +kernel
theorem zd56_20 : zD 56 20 .ireturn 1 21 = true := by decide +kernel
theorem zd57_0 : zD 57 0 (.iload_n 0) 1 1 = true := by decide +kernel
theorem zd57_1 : zDc 57 1 2 (Int32.ofNat 1) = true := by decide +kernel
theorem zd57_2 : zD 57 2 .ixor 1 3 = true := by decide +kernel
theorem zd57_3 : zD 57 3 .ireturn 1 4 = true := by decide +kernel
theorem zd58_0 : zDc 58 0 1 (Int32.ofNat 0) = true := by decide +kernel
theorem zd58_1 : zD 58 1 (.istore_n 3) 1 2 = true := by decide +kernel
theorem zd58_2 : zDc 58 2 3 (Int32.ofNat 0) = true := by decide +kernel
theorem zd58_3 : zD 58 3 (.istore 4) 2 5 = true := by decide +kernel
theorem zd58_5 : zD 58 5 (.iload 4) 2 7 = true := by decide +kernel
theorem zd58_7 : zD 58 7 (.aload_n 0) 1 8 = true := by decide +kernel
theorem zd58_8 : zDg 58 8 11 3 2 (.int) = true := by decide +kernel
theorem zd58_11 : zDm 58 11 .ge 41 14 = true := by decide +kernel
theorem zd58_14 : zD 58 14 (.aload_n 0) 1 15 = true := by decide +kernel
theorem zd58_15 : zD 58 15 (.iload_n 1) 1 16 = true := by decide +kernel
theorem zd58_16 : zD 58 16 (.iload 4) 2 18 = true := by decide +kernel
theorem zd58_18 : zDk 58 18 21 56 0 = true := by decide +kernel
theorem zd58_21 : zDf 58 21 .eq 35 24 = true := by decide +kernel
theorem zd58_24 : zD 58 24 (.iload_n 3) 1 25 = true := by decide +kernel
theorem zd58_25 : zD 58 25 (.iload_n 2) 1 26 = true := by decide +kernel
theorem zd58_26 : zDm 58 26 .ne 32 29 = true := by decide +kernel
theorem zd58_29 : zD 58 29 (.iload 4) 2 31 = true := by decide +kernel
theorem zd58_31 : zD 58 31 .ireturn 1 32 = true := by decide +kernel
theorem zd58_32 : zDi 58 32 35 3 (Int32.ofNat 1) = true := by decide +kernel
theorem zd58_35 : zDi 58 35 38 4 (Int32.ofNat 1) = true := by decide +kernel
theorem zd58_38 : zDj 58 38 5 = true := by decide +kernel
theorem zd58_41 : zDc 58 41 42 (-1) = true := by decide +kernel
theorem zd58_42 : zD 58 42 .ireturn 1 43 = true := by decide +kernel
theorem zd60_0 : zD 60 0 (.aload_n 0) 1 1 = true := by decide +kernel
theorem zd60_1 : zD 60 1 (.iload_n 1) 1 2 = true := by decide +kernel
theorem zd60_2 : zDk 60 2 5 49 0 = true := by decide +kernel
theorem zd60_5 : zD 60 5 (.astore 4) 2 7 = true := by decide +kernel
theorem zd60_7 : zD 60 7 (.iload_n 2) 1 8 = true := by decide +kernel
theorem zd60_8 : zDf 60 8 .lt 17 11 = true := by decide +kernel
theorem zd60_11 : zD 60 11 (.iload_n 2) 1 12 = true := by decide +kernel
theorem zd60_12 : zDc 60 12 14 (Int32.ofNat 16) = true := by decide +kernel
theorem zd60_14 : zDm 60 14 .lt 27 17 = true := by decide +kernel
theorem zd60_17 : zDx 60 17 0 = true := by decide +kernel
theorem zd60_20 : zD 60 20 .dup 1 21 = true := by decide +kernel
theorem zd60_27 : zD 60 27 (.iload_n 3) 1 28 = true := by decide +kernel
theorem zd60_28 : zDf 60 28 .lt 36 31 = true := by decide +kernel
theorem zd60_31 : zD 60 31 (.iload_n 3) 1 32 = true := by decide +kernel
theorem zd60_32 : zDc 60 32 33 (Int32.ofNat 4) = true := by decide +kernel
theorem zd60_33 : zDm 60 33 .lt 46 36 = true := by decide +kernel
theorem zd60_36 : zDx 60 36 0 = true := by decide +kernel
theorem zd60_39 : zD 60 39 .dup 1 40 = true := by decide +kernel
theorem zd60_46 : zD 60 46 (.aload 4) 2 48 = true := by decide +kernel
theorem zd60_48 : zDg 60 48 51 2 3 (.array .int) = true := by decide +kernel
theorem zd60_51 : zD 60 51 (.iload_n 2) 1 52 = true := by decide +kernel
theorem zd60_52 : zD 60 52 (.iload_n 3) 1 53 = true := by decide +kernel
theorem zd60_53 : zD 60 53 .iastore 1 54 = true := by decide +kernel
theorem zd60_54 : zD 60 54 (.aload_n 0) 1 55 = true := by decide +kernel
theorem zd60_55 : zDg 60 55 58 0 7 (.object "ReleaseLeaves$EventLog") = true := by decide +kernel
theorem zd60_58 : zD 60 58 (.iload_n 1) 1 59 = true := by decide +kernel
theorem zd60_59 : zDc 60 59 60 (Int32.ofNat 0) = true := by decide +kernel
theorem zd60_60 : zD 60 60 (.iload_n 2) 1 61 = true := by decide +kernel
theorem zd60_61 : zD 60 61 (.iload_n 3) 1 62 = true := by decide +kernel
theorem zd60_62 : zDk 60 62 65 61 0 = true := by decide +kernel
theorem zd60_65 : zD 60 65 (.aload 4) 2 67 = true := by decide +kernel
theorem zd60_67 : zDk 60 67 70 62 0 = true := by decide +kernel
theorem zd60_70 : zDf 60 70 .eq 77 73 = true := by decide +kernel
theorem zd60_73 : zDc 60 73 74 (Int32.ofNat 1) = true := by decide +kernel
theorem zd60_74 : zDj 60 74 78 = true := by decide +kernel
theorem zd60_77 : zDc 60 77 78 (Int32.ofNat 0) = true := by decide +kernel
theorem zd60_78 : zD 60 78 .ireturn 1 79 = true := by decide +kernel
theorem zd61_0 : zD 61 0 (.aload_n 0) 1 1 = true := by decide +kernel
theorem zd61_1 : zDg 61 1 4 5 4 (.int) = true := by decide +kernel
theorem zd61_4 : zDc 61 4 6 (Int32.ofNat 100) = true := by decide +kernel
theorem zd61_6 : zDm 61 6 .lt 10 9 = true := by decide +kernel
theorem zd61_9 : zD 61 9 .return_ 1 10 = true := by decide +kernel
theorem zd61_10 : zD 61 10 (.aload_n 0) 1 11 = true := by decide +kernel
theorem zd61_11 : zDg 61 11 14 5 0 (.array .int) = true := by decide +kernel
theorem zd61_14 : zD 61 14 (.aload_n 0) 1 15 = true := by decide +kernel
theorem zd61_15 : zDg 61 15 18 5 4 (.int) = true := by decide +kernel
theorem zd61_18 : zD 61 18 (.iload_n 1) 1 19 = true := by decide +kernel
theorem zd61_19 : zD 61 19 .iastore 1 20 = true := by decide +kernel
theorem zd61_20 : zD 61 20 (.aload_n 0) 1 21 = true := by decide +kernel
theorem zd61_21 : zDg 61 21 24 5 1 (.array .int) = true := by decide +kernel
theorem zd61_24 : zD 61 24 (.aload_n 0) 1 25 = true := by decide +kernel
theorem zd61_25 : zDg 61 25 28 5 4 (.int) = true := by decide +kernel
theorem zd61_28 : zD 61 28 (.iload_n 2) 1 29 = true := by decide +kernel
theorem zd61_29 : zD 61 29 .iastore 1 30 = true := by decide +kernel
theorem zd61_30 : zD 61 30 (.aload_n 0) 1 31 = true := by decide +kernel
theorem zd61_31 : zDg 61 31 34 5 2 (.array .int) = true := by decide +kernel
theorem zd61_34 : zD 61 34 (.aload_n 0) 1 35 = true := by decide +kernel
theorem zd61_35 : zDg 61 35 38 5 4 (.int) = true := by decide +kernel
theorem zd61_38 : zD 61 38 (.iload_n 3) 1 39 = true := by decide +kernel
theorem zd61_39 : zD 61 39 .iastore 1 40 = true := by decide +kernel
theorem zd61_40 : zD 61 40 (.aload_n 0) 1 41 = true := by decide +kernel
theorem zd61_41 : zDg 61 41 44 5 3 (.array .int) = true := by decide +kernel
theorem zd61_44 : zD 61 44 (.aload_n 0) 1 45 = true := by decide +kernel
theorem zd61_45 : zDg 61 45 48 5 4 (.int) = true := by decide +kernel
theorem zd61_48 : zD 61 48 (.iload 4) 2 50 = true := by decide +kernel
theorem zd61_50 : zD 61 50 .iastore 1 51 = true := by decide +kernel
theorem zd61_51 : zD 61 51 (.aload_n 0) 1 52 = true := by decide +kernel
theorem zd61_52 : zD 61 52 .dup 1 53 = true := by decide +kernel
theorem zd61_53 : zDg 61 53 56 5 4 (.int) = true := by decide +kernel
theorem zd61_56 : zDc 61 56 57 (Int32.ofNat 1) = true := by decide +kernel
theorem zd61_57 : zD 61 57 .iadd 1 58 = true := by decide +kernel
theorem zd61_58 : zDp 61 58 61 5 4 (.int) = true := by decide +kernel
theorem zd61_61 : zD 61 61 .return_ 1 62 = true := by decide +kernel
theorem zd62_0 : zDc 62 0 1 (-1) = true := by decide +kernel
theorem zd62_1 : zD 62 1 (.istore_n 1) 1 2 = true := by decide +kernel
theorem zd62_2 : zD 62 2 (.aload_n 0) 1 3 = true := by decide +kernel
theorem zd62_3 : zDg 62 3 6 2 3 (.array .int) = true := by decide +kernel
theorem zd62_6 : zD 62 6 (.astore_n 2) 1 7 = true := by decide +kernel
theorem zd62_7 : zD 62 7 (.aload_n 2) 1 8 = true := by decide +kernel
theorem zd62_8 : zD 62 8 .arraylength 1 9 = true := by decide +kernel
theorem zd62_9 : zD 62 9 (.istore_n 3) 1 10 = true := by decide +kernel
theorem zd62_10 : zDc 62 10 11 (Int32.ofNat 0) = true := by decide +kernel
theorem zd62_11 : zD 62 11 (.istore 4) 2 13 = true := by decide +kernel
theorem zd62_13 : zD 62 13 (.iload 4) 2 15 = true := by decide +kernel
theorem zd62_15 : zD 62 15 (.iload_n 3) 1 16 = true := by decide +kernel
theorem zd62_16 : zDm 62 16 .ge 56 19 = true := by decide +kernel
theorem zd62_19 : zD 62 19 (.aload_n 2) 1 20 = true := by decide +kernel
theorem zd62_20 : zD 62 20 (.iload 4) 2 22 = true := by decide +kernel
theorem zd62_22 : zD 62 22 .iaload 1 23 = true := by decide +kernel
theorem zd62_23 : zD 62 23 (.istore 5) 2 25 = true := by decide +kernel
theorem zd62_25 : zD 62 25 (.iload 5) 2 27 = true := by decide +kernel
theorem zd62_27 : zDc 62 27 28 (-1) = true := by decide +kernel
theorem zd62_28 : zDm 62 28 .ne 34 31 = true := by decide +kernel
theorem zd62_31 : zDj 62 31 50 = true := by decide +kernel
theorem zd62_34 : zD 62 34 (.iload_n 1) 1 35 = true := by decide +kernel
theorem zd62_35 : zDc 62 35 36 (-1) = true := by decide +kernel
theorem zd62_36 : zDm 62 36 .eq 47 39 = true := by decide +kernel
theorem zd62_39 : zD 62 39 (.iload 5) 2 41 = true := by decide +kernel
theorem zd62_41 : zD 62 41 (.iload_n 1) 1 42 = true := by decide +kernel
theorem zd62_42 : zDm 62 42 .eq 47 45 = true := by decide +kernel
theorem zd62_45 : zDc 62 45 46 (Int32.ofNat 1) = true := by decide +kernel
theorem zd62_46 : zD 62 46 .ireturn 1 47 = true := by decide +kernel
theorem zd62_47 : zD 62 47 (.iload 5) 2 49 = true := by decide +kernel
theorem zd62_49 : zD 62 49 (.istore_n 1) 1 50 = true := by decide +kernel
theorem zd62_50 : zDi 62 50 53 4 (Int32.ofNat 1) = true := by decide +kernel
theorem zd62_53 : zDj 62 53 13 = true := by decide +kernel
theorem zd62_56 : zDc 62 56 57 (Int32.ofNat 0) = true := by decide +kernel
theorem zd62_57 : zD 62 57 .ireturn 1 58 = true := by decide +kernel
theorem zd64_0 : zD 64 0 (.aload_n 0) 1 1 = true := by decide +kernel
theorem zd64_1 : zD 64 1 (.iload_n 1) 1 2 = true := by decide +kernel
theorem zd64_2 : zDk 64 2 5 49 0 = true := by decide +kernel
theorem zd64_5 : zD 64 5 (.astore_n 2) 1 6 = true := by decide +kernel
theorem zd64_6 : zD 64 6 (.aload_n 2) 1 7 = true := by decide +kernel
theorem zd64_7 : zDg 64 7 10 2 4 (.boolean) = true := by decide +kernel
theorem zd64_10 : zDf 64 10 .eq 15 13 = true := by decide +kernel
theorem zd64_13 : zDc 64 13 14 (-1) = true := by decide +kernel
theorem zd64_14 : zD 64 14 .ireturn 1 15 = true := by decide +kernel
theorem zd64_15 : zD 64 15 (.aload_n 2) 1 16 = true := by decide +kernel
theorem zd64_16 : zDc 64 16 17 (Int32.ofNat 1) = true := by decide +kernel
theorem zd64_17 : zDp 64 17 20 2 4 (.boolean) = true := by decide +kernel
theorem zd64_20 : zD 64 20 (.aload_n 0) 1 21 = true := by decide +kernel
theorem zd64_21 : zD 64 21 .dup 1 22 = true := by decide +kernel
theorem zd64_22 : zDg 64 22 25 0 4 (.int) = true := by decide +kernel
theorem zd64_25 : zDc 64 25 26 (Int32.ofNat 1) = true := by decide +kernel
theorem zd64_26 : zD 64 26 .iadd 1 27 = true := by decide +kernel
theorem zd64_27 : zDp 64 27 30 0 4 (.int) = true := by decide +kernel
theorem zd64_30 : zD 64 30 (.aload_n 0) 1 31 = true := by decide +kernel
theorem zd64_31 : zDg 64 31 34 0 7 (.object "ReleaseLeaves$EventLog") = true := by decide +kernel
theorem zd64_34 : zD 64 34 (.iload_n 1) 1 35 = true := by decide +kernel
theorem zd64_35 : zDc 64 35 36 (Int32.ofNat 2) = true := by decide +kernel
theorem zd64_36 : zDc 64 36 37 (-1) = true := by decide +kernel
theorem zd64_37 : zDc 64 37 38 (-1) = true := by decide +kernel
theorem zd64_38 : zDk 64 38 41 61 0 = true := by decide +kernel
theorem zd64_41 : zD 64 41 (.aload_n 0) 1 42 = true := by decide +kernel
theorem zd64_42 : zDg 64 42 45 0 4 (.int) = true := by decide +kernel
theorem zd64_45 : zD 64 45 .ireturn 1 46 = true := by decide +kernel
theorem zd66_0 : zD 66 0 (.aload_n 0) 1 1 = true := by decide +kernel
theorem zd66_1 : zD 66 1 (.iload_n 1) 1 2 = true := by decide +kernel
theorem zd66_2 : zDk 66 2 5 49 0 = true := by decide +kernel
theorem zd66_5 : zD 66 5 (.astore_n 2) 1 6 = true := by decide +kernel
theorem zd66_6 : zD 66 6 (.aload_n 2) 1 7 = true := by decide +kernel
theorem zd66_7 : zDg 66 7 10 2 4 (.boolean) = true := by decide +kernel
theorem zd66_10 : zDf 66 10 .ne 29 13 = true := by decide +kernel
theorem zd66_13 : zD 66 13 (.aload_n 2) 1 14 = true := by decide +kernel
theorem zd66_14 : zDk 66 14 17 62 0 = true := by decide +kernel
theorem zd66_17 : zDf 66 17 .eq 29 20 = true := by decide +kernel
theorem zd66_20 : zD 66 20 (.aload_n 0) 1 21 = true := by decide +kernel
theorem zd66_21 : zDg 66 21 24 0 6 (.int) = true := by decide +kernel
theorem zd66_24 : zDc 66 24 26 (Int32.ofNat 60) = true := by decide +kernel
theorem zd66_26 : zDm 66 26 .lt 31 29 = true := by decide +kernel
theorem zd66_29 : zDc 66 29 30 (-1) = true := by decide +kernel
theorem zd66_30 : zD 66 30 .ireturn 1 31 = true := by decide +kernel
theorem zd66_31 : zD 66 31 (.aload_n 0) 1 32 = true := by decide +kernel
theorem zd66_32 : zDg 66 32 35 0 6 (.int) = true := by decide +kernel
theorem zd66_35 : zD 66 35 (.istore_n 3) 1 36 = true := by decide +kernel
theorem zd66_36 : zD 66 36 (.aload_n 0) 1 37 = true := by decide +kernel
theorem zd66_37 : zDg 66 37 40 0 5 (.array .int) = true := by decide +kernel
theorem zd66_40 : zD 66 40 (.iload_n 3) 1 41 = true := by decide +kernel
theorem zd66_41 : zD 66 41 (.iload_n 1) 1 42 = true := by decide +kernel
theorem zd66_42 : zD 66 42 .iastore 1 43 = true := by decide +kernel
theorem zd66_43 : zD 66 43 (.aload_n 0) 1 44 = true := by decide +kernel
theorem zd66_44 : zD 66 44 (.iload_n 3) 1 45 = true := by decide +kernel
theorem zd66_45 : zDc 66 45 46 (Int32.ofNat 1) = true := by decide +kernel
theorem zd66_46 : zD 66 46 .iadd 1 47 = true := by decide +kernel
theorem zd66_47 : zDp 66 47 50 0 6 (.int) = true := by decide +kernel
theorem zd66_50 : zD 66 50 (.aload_n 0) 1 51 = true := by decide +kernel
theorem zd66_51 : zDg 66 51 54 0 7 (.object "ReleaseLeaves$EventLog") = true := by decide +kernel
theorem zd66_54 : zD 66 54 (.iload_n 1) 1 55 = true := by decide +kernel
theorem zd66_55 : zDc 66 55 56 (Int32.ofNat 1) = true := by decide +kernel
theorem zd66_56 : zD 66 56 (.iload_n 3) 1 57 = true := by decide +kernel
theorem zd66_57 : zDc 66 57 58 (-1) = true := by decide +kernel
theorem zd66_58 : zDk 66 58 61 61 0 = true := by decide +kernel
theorem zd66_61 : zD 66 61 (.iload_n 3) 1 62 = true := by decide +kernel
theorem zd66_62 : zD 66 62 .ireturn 1 63 = true := by decide +kernel
theorem zd68_0 : zD 68 0 (.iload_n 1) 1 1 = true := by decide +kernel
theorem zd68_1 : zDf 68 1 .lt 12 4 = true := by decide +kernel
theorem zd68_4 : zD 68 4 (.iload_n 1) 1 5 = true := by decide +kernel
theorem zd68_5 : zD 68 5 (.aload_n 0) 1 6 = true := by decide +kernel
theorem zd68_6 : zDg 68 6 9 0 6 (.int) = true := by decide +kernel
theorem zd68_9 : zDm 68 9 .lt 22 12 = true := by decide +kernel
theorem zd68_12 : zDx 68 12 1 = true := by decide +kernel
theorem zd68_15 : zD 68 15 .dup 1 16 = true := by decide +kernel
theorem zd68_22 : zD 68 22 (.iload_n 3) 1 23 = true := by decide +kernel
theorem zd68_23 : zDf 68 23 .lt 31 26 = true := by decide +kernel
theorem zd68_26 : zD 68 26 (.iload_n 3) 1 27 = true := by decide +kernel
theorem zd68_27 : zDc 68 27 28 (Int32.ofNat 2) = true := by decide +kernel
theorem zd68_28 : zDm 68 28 .le 41 31 = true := by decide +kernel
theorem zd68_31 : zDx 68 31 1 = true := by decide +kernel
theorem zd68_34 : zD 68 34 .dup 1 35 = true := by decide +kernel
theorem zd68_41 : zD 68 41 (.aload_n 0) 1 42 = true := by decide +kernel
theorem zd68_42 : zDg 68 42 45 0 7 (.object "ReleaseLeaves$EventLog") = true := by decide +kernel
theorem zd68_45 : zD 68 45 (.aload_n 0) 1 46 = true := by decide +kernel
theorem zd68_46 : zDg 68 46 49 0 5 (.array .int) = true := by decide +kernel
theorem zd68_49 : zD 68 49 (.iload_n 1) 1 50 = true := by decide +kernel
theorem zd68_50 : zD 68 50 .iaload 1 51 = true := by decide +kernel
theorem zd68_51 : zD 68 51 (.iload_n 2) 1 52 = true := by decide +kernel
theorem zd68_52 : zDk 68 52 55 69 0 = true := by decide +kernel
theorem zd68_55 : zD 68 55 (.istore 4) 2 57 = true := by decide +kernel
theorem zd68_57 : zD 68 57 (.iload 4) 2 59 = true := by decide +kernel
theorem zd68_59 : zDc 68 59 60 (-1) = true := by decide +kernel
theorem zd68_60 : zDm 68 60 .ne 67 63 = true := by decide +kernel
theorem zd68_63 : zDc 68 63 64 (-1) = true := by decide +kernel
theorem zd68_64 : zDj 68 64 77 = true := by decide +kernel
theorem zd68_67 : zD 68 67 (.aload_n 0) 1 68 = true := by decide +kernel
theorem zd68_68 : zDg 68 68 71 0 7 (.object "ReleaseLeaves$EventLog") = true := by decide +kernel
theorem zd68_71 : zD 68 71 (.iload 4) 2 73 = true := by decide +kernel
theorem zd68_73 : zD 68 73 (.iload_n 3) 1 74 = true := by decide +kernel
theorem zd68_74 : zDk 68 74 77 70 0 = true := by decide +kernel
theorem zd68_77 : zD 68 77 .ireturn 1 78 = true := by decide +kernel
theorem zd69_0 : zDc 69 0 1 (Int32.ofNat 0) = true := by decide +kernel
theorem zd69_1 : zD 69 1 (.istore_n 3) 1 2 = true := by decide +kernel
theorem zd69_2 : zDc 69 2 3 (Int32.ofNat 0) = true := by decide +kernel
theorem zd69_3 : zD 69 3 (.istore 4) 2 5 = true := by decide +kernel
theorem zd69_5 : zD 69 5 (.iload 4) 2 7 = true := by decide +kernel
theorem zd69_7 : zD 69 7 (.aload_n 0) 1 8 = true := by decide +kernel
theorem zd69_8 : zDg 69 8 11 5 4 (.int) = true := by decide +kernel
theorem zd69_11 : zDm 69 11 .ge 42 14 = true := by decide +kernel
theorem zd69_14 : zD 69 14 (.aload_n 0) 1 15 = true := by decide +kernel
theorem zd69_15 : zDg 69 15 18 5 0 (.array .int) = true := by decide +kernel
theorem zd69_18 : zD 69 18 (.iload 4) 2 20 = true := by decide +kernel
theorem zd69_20 : zD 69 20 .iaload 1 21 = true := by decide +kernel
theorem zd69_21 : zD 69 21 (.iload_n 1) 1 22 = true := by decide +kernel
theorem zd69_22 : zDm 69 22 .ne 36 25 = true := by decide +kernel
theorem zd69_25 : zD 69 25 (.iload_n 3) 1 26 = true := by decide +kernel
theorem zd69_26 : zD 69 26 (.iload_n 2) 1 27 = true := by decide +kernel
theorem zd69_27 : zDm 69 27 .ne 33 30 = true := by decide +kernel
theorem zd69_30 : zD 69 30 (.iload 4) 2 32 = true := by decide +kernel
theorem zd69_32 : zD 69 32 .ireturn 1 33 = true := by decide +kernel
theorem zd69_33 : zDi 69 33 36 3 (Int32.ofNat 1) = true := by decide +kernel
theorem zd69_36 : zDi 69 36 39 4 (Int32.ofNat 1) = true := by decide +kernel
theorem zd69_39 : zDj 69 39 5 = true := by decide +kernel
theorem zd69_42 : zDc 69 42 43 (-1) = true := by decide +kernel
theorem zd69_43 : zD 69 43 .ireturn 1 44 = true := by decide +kernel
theorem zd70_0 : zD 70 0 (.iload_n 2) 1 1 = true := by decide +kernel
theorem zd70_1 : zDf 70 1 .ne 11 4 = true := by decide +kernel
theorem zd70_4 : zD 70 4 (.aload_n 0) 1 5 = true := by decide +kernel
theorem zd70_5 : zDg 70 5 8 5 1 (.array .int) = true := by decide +kernel
theorem zd70_8 : zD 70 8 (.iload_n 1) 1 9 = true := by decide +kernel
theorem zd70_9 : zD 70 9 .iaload 1 10 = true := by decide +kernel
theorem zd70_10 : zD 70 10 .ireturn 1 11 = true := by decide +kernel
theorem zd70_11 : zD 70 11 (.iload_n 2) 1 12 = true := by decide +kernel
theorem zd70_12 : zDc 70 12 13 (Int32.ofNat 1) = true := by decide +kernel
theorem zd70_13 : zDm 70 13 .ne 25 16 = true := by decide +kernel
theorem zd70_16 : zD 70 16 (.aload_n 0) 1 17 = true := by decide +kernel
theorem zd70_17 : zDg 70 17 20 5 2 (.array .int) = true := by decide +kernel
theorem zd70_20 : zD 70 20 (.iload_n 1) 1 21 = true := by decide +kernel
theorem zd70_21 : zD 70 21 .iaload 1 22 = true := by decide +kernel
theorem zd70_22 : zDj 70 22 31 = true := by decide +kernel
theorem zd70_25 : zD 70 25 (.aload_n 0) 1 26 = true := by decide +kernel
theorem zd70_26 : zDg 70 26 29 5 3 (.array .int) = true := by decide +kernel
theorem zd70_29 : zD 70 29 (.iload_n 1) 1 30 = true := by decide +kernel
theorem zd70_30 : zD 70 30 .iaload 1 31 = true := by decide +kernel
theorem zd70_31 : zD 70 31 .ireturn 1 32 = true := by decide +kernel
theorem zd72_0 : zD 72 0 (.aload_n 0) 1 1 = true := by decide +kernel
theorem zd72_1 : zD 72 1 (.iload_n 1) 1 2 = true := by decide +kernel
theorem zd72_2 : zD 72 2 (.iload_n 2) 1 3 = true := by decide +kernel
theorem zd72_3 : zDk 72 3 6 53 0 = true := by decide +kernel
theorem zd72_6 : zD 72 6 (.astore 4) 2 8 = true := by decide +kernel
theorem zd72_8 : zD 72 8 (.iload_n 3) 1 9 = true := by decide +kernel
theorem zd72_9 : zDk 72 9 12 50 2 = true := by decide +kernel
theorem zd72_12 : zD 72 12 (.aload 4) 2 14 = true := by decide +kernel
theorem zd72_14 : zDg 72 14 17 2 2 (.object "ReleaseLeaves$Tree") = true := by decide +kernel
theorem zd72_17 : zDc 72 17 18 (Int32.ofNat 0) = true := by decide +kernel
theorem zd72_18 : zD 72 18 (.iload_n 2) 1 19 = true := by decide +kernel
theorem zd72_19 : zDk 72 19 22 17 0 = true := by decide +kernel
theorem zd72_22 : zD 72 22 (.iload_n 3) 1 23 = true := by decide +kernel
theorem zd72_23 : zD 72 23 .iaload 1 24 = true := by decide +kernel
theorem zd72_24 : zD 72 24 .ireturn 1 25 = true := by decide +kernel
theorem zd74_0 : zD 74 0 (.iload_n 1) 1 1 = true := by decide +kernel
theorem zd74_1 : zDf 74 1 .lt 17 4 = true := by decide +kernel
theorem zd74_4 : zD 74 4 (.iload_n 1) 1 5 = true := by decide +kernel
theorem zd74_5 : zD 74 5 (.iload_n 2) 1 6 = true := by decide +kernel
theorem zd74_6 : zDm 74 6 .gt 17 9 = true := by decide +kernel
theorem zd74_9 : zD 74 9 (.iload_n 2) 1 10 = true := by decide +kernel
theorem zd74_10 : zD 74 10 (.aload_n 0) 1 11 = true := by decide +kernel
theorem zd74_11 : zDg 74 11 14 0 2 (.int) = true := by decide +kernel
theorem zd74_14 : zDm 74 14 .le 27 17 = true := by decide +kernel
theorem zd74_17 : zDx 74 17 1 = true := by decide +kernel
theorem zd74_20 : zD 74 20 .dup 1 21 = true := by decide +kernel
theorem zd74_27 : zD 74 27 (.iload_n 3) 1 28 = true := by decide +kernel
theorem zd74_28 : zDf 74 28 .ge 41 31 = true := by decide +kernel
theorem zd74_31 : zDx 74 31 1 = true := by decide +kernel
theorem zd74_34 : zD 74 34 .dup 1 35 = true := by decide +kernel
theorem zd74_41 : zD 74 41 (.iload_n 3) 1 42 = true := by decide +kernel
theorem zd74_42 : zDc 74 42 44 (Int32.ofNat 32) = true := by decide +kernel
theorem zd74_44 : zD 74 44 .idiv 1 45 = true := by decide +kernel
theorem zd74_45 : zD 74 45 (.istore 4) 2 47 = true := by decide +kernel
theorem zd74_47 : zD 74 47 (.iload_n 3) 1 48 = true := by decide +kernel
theorem zd74_48 : zDc 74 48 50 (Int32.ofNat 32) = true := by decide +kernel
theorem zd74_50 : zD 74 50 .irem 1 51 = true := by decide +kernel
theorem zd74_51 : zD 74 51 (.istore 5) 2 53 = true := by decide +kernel
theorem zd74_53 : zD 74 53 (.iload_n 2) 1 54 = true := by decide +kernel
theorem zd74_54 : zD 74 54 (.iload_n 1) 1 55 = true := by decide +kernel
theorem zd74_55 : zD 74 55 .isub 1 56 = true := by decide +kernel
theorem zd74_56 : zD 74 56 (.istore 6) 2 58 = true := by decide +kernel
theorem zd74_58 : zD 74 58 (.iload 4) 2 60 = true := by decide +kernel
theorem zd74_60 : zDf 74 60 .ne 73 63 = true := by decide +kernel
theorem zd74_63 : zD 74 63 (.aload_n 0) 1 64 = true := by decide +kernel
theorem zd74_64 : zDg 74 64 67 0 3 (.array (.array .int)) = true := by decide +kernel
theorem zd74_67 : zD 74 67 (.iload_n 1) 1 68 = true := by decide +kernel
theorem zd74_68 : zD 74 68 .aaload 1 69 = true := by decide +kernel
theorem zd74_69 : zD 74 69 (.iload 5) 2 71 = true := by decide +kernel
theorem zd74_71 : zD 74 71 .iaload 1 72 = true := by decide +kernel
theorem zd74_72 : zD 74 72 .ireturn 1 73 = true := by decide +kernel
theorem zd74_73 : zD 74 73 (.iload 4) 2 75 = true := by decide +kernel
theorem zd74_75 : zD 74 75 (.iload 6) 2 77 = true := by decide +kernel
theorem zd74_77 : zDm 74 77 .gt 101 80 = true := by decide +kernel
theorem zd74_80 : zD 74 80 (.aload_n 0) 1 81 = true := by decide +kernel
theorem zd74_81 : zDg 74 81 84 0 1 (.array (.object "ReleaseLeaves$Release")) = true := by decide +kernel
theorem zd74_84 : zD 74 84 (.iload_n 1) 1 85 = true := by decide +kernel
theorem zd74_85 : zD 74 85 (.iload 4) 2 87 = true := by decide +kernel
theorem zd74_87 : zD 74 87 .iadd 1 88 = true := by decide +kernel
theorem zd74_88 : zDc 74 88 89 (Int32.ofNat 1) = true := by decide +kernel
theorem zd74_89 : zD 74 89 .isub 1 90 = true := by decide +kernel
theorem zd74_90 : zD 74 90 .aaload 1 91 = true := by decide +kernel
theorem zd74_91 : zDg 74 91 94 2 2 (.object "ReleaseLeaves$Tree") = true := by decide +kernel
theorem zd74_94 : zDk 74 94 97 23 0 = true := by decide +kernel
theorem zd74_97 : zD 74 97 (.iload 5) 2 99 = true := by decide +kernel
theorem zd74_99 : zD 74 99 .iaload 1 100 = true := by decide +kernel
theorem zd74_100 : zD 74 100 .ireturn 1 101 = true := by decide +kernel
theorem zd74_101 : zD 74 101 (.iload 4) 2 103 = true := by decide +kernel
theorem zd74_103 : zD 74 103 (.iload 6) 2 105 = true := by decide +kernel
theorem zd74_105 : zDc 74 105 106 (Int32.ofNat 1) = true := by decide +kernel
theorem zd74_106 : zD 74 106 .iadd 1 107 = true := by decide +kernel
theorem zd74_107 : zDm 74 107 .ne 122 110 = true := by decide +kernel
theorem zd74_110 : zD 74 110 (.aload_n 0) 1 111 = true := by decide +kernel
theorem zd74_111 : zDg 74 111 114 0 3 (.array (.array .int)) = true := by decide +kernel
theorem zd74_114 : zD 74 114 (.iload_n 2) 1 115 = true := by decide +kernel
theorem zd74_115 : zD 74 115 .aaload 1 116 = true := by decide +kernel
theorem zd74_116 : zD 74 116 (.iload 5) 2 118 = true := by decide +kernel
theorem zd74_118 : zD 74 118 .iaload 1 119 = true := by decide +kernel
theorem zd74_119 : zDj 74 119 123 = true := by decide +kernel
theorem zd74_122 : zDc 74 122 123 (-1) = true := by decide +kernel
theorem zd74_123 : zD 74 123 .ireturn 1 124 = true := by decide +kernel
theorem zd76_0 : zD 76 0 (.aload_n 0) 1 1 = true := by decide +kernel
theorem zd76_1 : zDg 76 1 4 0 8 (.object "ReleaseLeaves$Claim") = true := by decide +kernel
theorem zd76_4 : zD 76 4 (.iload_n 1) 1 5 = true := by decide +kernel
theorem zd76_5 : zDk 76 5 8 29 0 = true := by decide +kernel
theorem zd76_8 : zDf 76 8 .ne 21 11 = true := by decide +kernel
theorem zd76_11 : zDx 76 11 1 = true := by decide +kernel
theorem zd76_14 : zD 76 14 .dup 1 15 = true := by decide +kernel
theorem zd76_21 : zD 76 21 (.aload_n 0) 1 22 = true := by decide +kernel
theorem zd76_22 : zDg 76 22 25 0 8 (.object "ReleaseLeaves$Claim") = true := by decide +kernel
theorem zd76_25 : zD 76 25 (.iload_n 1) 1 26 = true := by decide +kernel
theorem zd76_26 : zD 76 26 (.iload_n 2) 1 27 = true := by decide +kernel
theorem zd76_27 : zDk 76 27 30 77 0 = true := by decide +kernel
theorem zd76_30 : zD 76 30 .ireturn 1 31 = true := by decide +kernel
theorem zd77_0 : zD 77 0 (.aload_n 0) 1 1 = true := by decide +kernel
theorem zd77_1 : zDg 77 1 4 6 0 (.array .int) = true := by decide +kernel
theorem zd77_4 : zD 77 4 (.iload_n 1) 1 5 = true := by decide +kernel
theorem zd77_5 : zD 77 5 .iaload 1 6 = true := by decide +kernel
theorem zd77_6 : zD 77 6 (.istore_n 3) 1 7 = true := by decide +kernel
theorem zd77_7 : zD 77 7 (.aload_n 0) 1 8 = true := by decide +kernel
theorem zd77_8 : zDg 77 8 11 6 0 (.array .int) = true := by decide +kernel
theorem zd77_11 : zD 77 11 (.iload_n 1) 1 12 = true := by decide +kernel
theorem zd77_12 : zD 77 12 (.iload_n 3) 1 13 = true := by decide +kernel
theorem zd77_13 : zD 77 13 (.iload_n 2) 1 14 = true := by decide +kernel
theorem zd77_14 : zDc 77 14 17 (Int32.ofNat 255) = true := by decide +kernel
theorem zd77_17 : zD 77 17 .iand 1 18 = true := by decide +kernel
theorem zd77_18 : zD 77 18 .ixor 1 19 = true := by decide +kernel
theorem zd77_19 : zD 77 19 .iastore 1 20 = true := by decide +kernel
theorem zd77_20 : zD 77 20 (.aload_n 0) 1 21 = true := by decide +kernel
theorem zd77_21 : zDg 77 21 24 6 0 (.array .int) = true := by decide +kernel
theorem zd77_24 : zD 77 24 (.iload_n 1) 1 25 = true := by decide +kernel
theorem zd77_25 : zD 77 25 .iaload 1 26 = true := by decide +kernel
theorem zd77_26 : zD 77 26 (.iload_n 3) 1 27 = true := by decide +kernel
theorem zd77_27 : zDm 77 27 .eq 34 30 = true := by decide +kernel
theorem zd77_30 : zDc 77 30 31 (Int32.ofNat 1) = true := by decide +kernel
theorem zd77_31 : zDj 77 31 35 = true := by decide +kernel
theorem zd77_34 : zDc 77 34 35 (Int32.ofNat 0) = true := by decide +kernel
theorem zd77_35 : zD 77 35 .ireturn 1 36 = true := by decide +kernel
theorem zd79_0 : zD 79 0 (.aload_n 0) 1 1 = true := by decide +kernel
theorem zd79_1 : zD 79 1 (.iload_n 1) 1 2 = true := by decide +kernel
theorem zd79_2 : zD 79 2 (.iload_n 2) 1 3 = true := by decide +kernel
theorem zd79_3 : zDk 79 3 6 53 0 = true := by decide +kernel
theorem zd79_6 : zDg 79 6 9 2 0 (.array (.object "ReleaseLeaves$StoredFile")) = true := by decide +kernel
theorem zd79_9 : zD 79 9 (.iload_n 2) 1 10 = true := by decide +kernel
theorem zd79_10 : zD 79 10 .aaload 1 11 = true := by decide +kernel
theorem zd79_11 : zD 79 11 (.astore_n 3) 1 12 = true := by decide +kernel
theorem zd79_12 : zD 79 12 (.iload_n 1) 1 13 = true := by decide +kernel
theorem zd79_13 : zDf 79 13 .ne 18 16 = true := by decide +kernel
theorem zd79_16 : zDc 79 16 17 (Int32.ofNat 2) = true := by decide +kernel
theorem zd79_17 : zD 79 17 .ireturn 1 18 = true := by decide +kernel
theorem zd79_18 : zD 79 18 (.aload_n 0) 1 19 = true := by decide +kernel
theorem zd79_19 : zDg 79 19 22 0 1 (.array (.object "ReleaseLeaves$Release")) = true := by decide +kernel
theorem zd79_22 : zD 79 22 (.iload_n 1) 1 23 = true := by decide +kernel
theorem zd79_23 : zDc 79 23 24 (Int32.ofNat 1) = true := by decide +kernel
theorem zd79_24 : zD 79 24 .isub 1 25 = true := by decide +kernel
theorem zd79_25 : zD 79 25 .aaload 1 26 = true := by decide +kernel
theorem zd79_26 : zD 79 26 (.astore 4) 2 28 = true := by decide +kernel
theorem zd79_28 : zD 79 28 (.aload 4) 2 30 = true := by decide +kernel
theorem zd79_30 : zD 79 30 (.aload_n 3) 1 31 = true := by decide +kernel
theorem zd79_31 : zDg 79 31 34 4 0 (.int) = true := by decide +kernel
theorem zd79_34 : zDk 79 34 37 42 0 = true := by decide +kernel
theorem zd79_37 : zD 79 37 (.istore 5) 2 39 = true := by decide +kernel
theorem zd79_39 : zD 79 39 (.iload 5) 2 41 = true := by decide +kernel
theorem zd79_41 : zDc 79 41 42 (-1) = true := by decide +kernel
theorem zd79_42 : zDm 79 42 .ne 47 45 = true := by decide +kernel
theorem zd79_45 : zDc 79 45 46 (Int32.ofNat 2) = true := by decide +kernel
theorem zd79_46 : zD 79 46 .ireturn 1 47 = true := by decide +kernel
theorem zd79_47 : zD 79 47 (.aload_n 3) 1 48 = true := by decide +kernel
theorem zd79_48 : zD 79 48 (.aload 4) 2 50 = true := by decide +kernel
theorem zd79_50 : zDg 79 50 53 2 0 (.array (.object "ReleaseLeaves$StoredFile")) = true := by decide +kernel
theorem zd79_53 : zD 79 53 (.iload 5) 2 55 = true := by decide +kernel
theorem zd79_55 : zD 79 55 .aaload 1 56 = true := by decide +kernel
theorem zd79_56 : zDk 79 56 59 80 0 = true := by decide +kernel
theorem zd79_59 : zDf 79 59 .eq 66 62 = true := by decide +kernel
theorem zd79_62 : zDc 79 62 63 (Int32.ofNat 0) = true := by decide +kernel
theorem zd79_63 : zDj 79 63 67 = true := by decide +kernel
theorem zd79_66 : zDc 79 66 67 (Int32.ofNat 1) = true := by decide +kernel
theorem zd79_67 : zD 79 67 .ireturn 1 68 = true := by decide +kernel
theorem zd80_0 : zD 80 0 (.aload_n 0) 1 1 = true := by decide +kernel
theorem zd80_1 : zDg 80 1 4 4 2 (.int) = true := by decide +kernel
theorem zd80_4 : zD 80 4 (.aload_n 1) 1 5 = true := by decide +kernel
theorem zd80_5 : zDg 80 5 8 4 2 (.int) = true := by decide +kernel
theorem zd80_8 : zDm 80 8 .ne 33 11 = true := by decide +kernel
theorem zd80_11 : zD 80 11 (.aload_n 0) 1 12 = true := by decide +kernel
theorem zd80_12 : zDg 80 12 15 4 1 (.array .int) = true := by decide +kernel
theorem zd80_15 : zD 80 15 (.aload_n 1) 1 16 = true := by decide +kernel
theorem zd80_16 : zDg 80 16 19 4 1 (.array .int) = true := by decide +kernel
theorem zd80_19 : zD 80 19 (.aload_n 0) 1 20 = true := by decide +kernel
theorem zd80_20 : zDg 80 20 23 4 2 (.int) = true := by decide +kernel
theorem zd80_23 : zDk 80 23 26 35 2 = true := by decide +kernel
theorem zd80_26 : zDf 80 26 .eq 33 29 = true := by decide +kernel
theorem zd80_29 : zDc 80 29 30 (Int32.ofNat 1) = true := by decide +kernel
theorem zd80_30 : zDj 80 30 34 = true := by decide +kernel
theorem zd80_33 : zDc 80 33 34 (Int32.ofNat 0) = true := by decide +kernel
theorem zd80_34 : zD 80 34 .ireturn 1 35 = true := by decide +kernel
