/-! The instructions of the class, read off its code -/
theorem zd1_0 : zD 1 0 (.aload_n 0) 1 1 = true := by decide +kernel
theorem zd1_1 : zDo 1 1 4 = true := by decide +kernel
theorem zd1_4 : zD 1 4 (.aload_n 0) 1 5 = true := by decide +kernel
theorem zd1_5 : zDw 1 5 8 1 = true := by decide +kernel
theorem zd1_8 : zD 1 8 .dup 1 9 = true := by decide +kernel
theorem zd1_9 : zDk 1 9 12 2 1 = true := by decide +kernel
theorem zd1_12 : zDp 1 12 15 0 0 (.object "ReleaseLeaves$Digester") = true := by decide +kernel
theorem zd1_15 : zD 1 15 (.aload_n 0) 1 16 = true := by decide +kernel
theorem zd1_16 : zDc 1 16 18 (Int32.ofNat 11) = true := by decide +kernel
theorem zd1_18 : zDa 1 18 21 "ReleaseLeaves$Release" = true := by decide +kernel
theorem zd1_21 : zDp 1 21 24 0 1 (.array (.object "ReleaseLeaves$Release")) = true := by decide +kernel
theorem zd1_24 : zDc 1 24 25 (Int32.ofNat 0) = true := by decide +kernel
theorem zd1_25 : zD 1 25 (.istore_n 1) 1 26 = true := by decide +kernel
theorem zd1_26 : zD 1 26 (.iload_n 1) 1 27 = true := by decide +kernel
theorem zd1_27 : zD 1 27 (.aload_n 0) 1 28 = true := by decide +kernel
theorem zd1_28 : zDg 1 28 31 0 1 (.array (.object "ReleaseLeaves$Release")) = true := by decide +kernel
theorem zd1_31 : zD 1 31 .arraylength 1 32 = true := by decide +kernel
theorem zd1_32 : zDm 1 32 .ge 54 35 = true := by decide +kernel
theorem zd1_35 : zD 1 35 (.aload_n 0) 1 36 = true := by decide +kernel
theorem zd1_36 : zDg 1 36 39 0 1 (.array (.object "ReleaseLeaves$Release")) = true := by decide +kernel
theorem zd1_39 : zD 1 39 (.iload_n 1) 1 40 = true := by decide +kernel
theorem zd1_40 : zDw 1 40 43 2 = true := by decide +kernel
theorem zd1_43 : zD 1 43 .dup 1 44 = true := by decide +kernel
theorem zd1_44 : zDk 1 44 47 3 1 = true := by decide +kernel
theorem zd1_47 : zD 1 47 .aastore 1 48 = true := by decide +kernel
theorem zd1_48 : zDi 1 48 51 1 (Int32.ofNat 1) = true := by decide +kernel
theorem zd1_51 : zDj 1 51 26 = true := by decide +kernel
theorem zd1_54 : zD 1 54 (.aload_n 0) 1 55 = true := by decide +kernel
theorem zd1_55 : zDc 1 55 57 (Int32.ofNat 11) = true := by decide +kernel
theorem zd1_57 : zDc 1 57 59 (Int32.ofNat 32) = true := by decide +kernel
theorem zd1_59 : zDu 1 59 63 = true := by decide +kernel
theorem zd1_63 : zDp 1 63 66 0 3 (.array (.array .int)) = true := by decide +kernel
theorem zd1_66 : zD 1 66 (.aload_n 0) 1 67 = true := by decide +kernel
theorem zd1_67 : zDg 1 67 70 0 0 (.object "ReleaseLeaves$Digester") = true := by decide +kernel
theorem zd1_70 : zDk 1 70 73 6 0 = true := by decide +kernel
theorem zd1_73 : zD 1 73 (.aload_n 0) 1 74 = true := by decide +kernel
theorem zd1_74 : zDg 1 74 77 0 0 (.object "ReleaseLeaves$Digester") = true := by decide +kernel
theorem zd1_77 : zD 1 77 (.aload_n 0) 1 78 = true := by decide +kernel
theorem zd1_78 : zDg 1 78 81 0 3 (.array (.array .int)) = true := by decide +kernel
theorem zd1_81 : zDc 1 81 82 (Int32.ofNat 0) = true := by decide +kernel
theorem zd1_82 : zD 1 82 .aaload 1 83 = true := by decide +kernel
theorem zd1_83 : zDk 1 83 86 7 0 = true := by decide +kernel
theorem zd1_86 : zD 1 86 (.aload_n 0) 1 87 = true := by decide +kernel
theorem zd1_87 : zDc 1 87 89 (Int32.ofNat 60) = true := by decide +kernel
theorem zd1_89 : zD 1 89 (.newarray .int) 2 91 = true := by decide +kernel
theorem zd1_91 : zDp 1 91 94 0 5 (.array .int) = true := by decide +kernel
theorem zd1_94 : zD 1 94 (.aload_n 0) 1 95 = true := by decide +kernel
theorem zd1_95 : zDw 1 95 98 5 = true := by decide +kernel
theorem zd1_98 : zD 1 98 .dup 1 99 = true := by decide +kernel
theorem zd1_99 : zDk 1 99 102 12 1 = true := by decide +kernel
theorem zd1_102 : zDp 1 102 105 0 7 (.object "ReleaseLeaves$EventLog") = true := by decide +kernel
theorem zd1_105 : zD 1 105 (.aload_n 0) 1 106 = true := by decide +kernel
theorem zd1_106 : zDw 1 106 109 6 = true := by decide +kernel
theorem zd1_109 : zD 1 109 .dup 1 110 = true := by decide +kernel
theorem zd1_110 : zDk 1 110 113 13 1 = true := by decide +kernel
theorem zd1_113 : zDp 1 113 116 0 8 (.object "ReleaseLeaves$Claim") = true := by decide +kernel
theorem zd1_116 : zD 1 116 (.aload_n 0) 1 117 = true := by decide +kernel
theorem zd1_117 : zDc 1 117 119 (Int32.ofNat 32) = true := by decide +kernel
theorem zd1_119 : zD 1 119 (.newarray .int) 2 121 = true := by decide +kernel
theorem zd1_121 : zDp 1 121 124 0 9 (.array .int) = true := by decide +kernel
theorem zd1_124 : zD 1 124 .return_ 1 125 = true := by decide +kernel
theorem zd2_0 : zD 2 0 (.aload_n 0) 1 1 = true := by decide +kernel
theorem zd2_1 : zDo 2 1 4 = true := by decide +kernel
theorem zd2_4 : zD 2 4 (.aload_n 0) 1 5 = true := by decide +kernel
theorem zd2_5 : zDc 2 5 7 (Int32.ofNat 8) = true := by decide +kernel
theorem zd2_7 : zD 2 7 (.newarray .int) 2 9 = true := by decide +kernel
theorem zd2_9 : zDp 2 9 12 1 0 (.array .int) = true := by decide +kernel
theorem zd2_12 : zD 2 12 (.aload_n 0) 1 13 = true := by decide +kernel
theorem zd2_13 : zDs 2 13 16 2 = true := by decide +kernel
theorem zd2_16 : zD 2 16 .arraylength 1 17 = true := by decide +kernel
theorem zd2_17 : zD 2 17 (.newarray .int) 2 19 = true := by decide +kernel
theorem zd2_19 : zDp 2 19 22 1 1 (.array .int) = true := by decide +kernel
theorem zd2_22 : zD 2 22 .return_ 1 23 = true := by decide +kernel
theorem zd3_0 : zD 3 0 (.aload_n 0) 1 1 = true := by decide +kernel
theorem zd3_1 : zDo 3 1 4 = true := by decide +kernel
theorem zd3_4 : zD 3 4 (.aload_n 0) 1 5 = true := by decide +kernel
theorem zd3_5 : zDc 3 5 7 (Int32.ofNat 8) = true := by decide +kernel
theorem zd3_7 : zDa 3 7 10 "ReleaseLeaves$StoredFile" = true := by decide +kernel
theorem zd3_10 : zDp 3 10 13 2 0 (.array (.object "ReleaseLeaves$StoredFile")) = true := by decide +kernel
theorem zd3_13 : zD 3 13 (.aload_n 0) 1 14 = true := by decide +kernel
theorem zd3_14 : zDw 3 14 17 3 = true := by decide +kernel
theorem zd3_17 : zD 3 17 .dup 1 18 = true := by decide +kernel
theorem zd3_18 : zDk 3 18 21 4 1 = true := by decide +kernel
theorem zd3_21 : zDp 3 21 24 2 2 (.object "ReleaseLeaves$Tree") = true := by decide +kernel
theorem zd3_24 : zD 3 24 (.aload_n 0) 1 25 = true := by decide +kernel
theorem zd3_25 : zDc 3 25 27 (Int32.ofNat 16) = true := by decide +kernel
theorem zd3_27 : zD 3 27 (.newarray .int) 2 29 = true := by decide +kernel
theorem zd3_29 : zDp 3 29 32 2 3 (.array .int) = true := by decide +kernel
theorem zd3_32 : zDc 3 32 33 (Int32.ofNat 0) = true := by decide +kernel
theorem zd3_33 : zD 3 33 (.istore_n 1) 1 34 = true := by decide +kernel
theorem zd3_34 : zD 3 34 (.iload_n 1) 1 35 = true := by decide +kernel
theorem zd3_35 : zD 3 35 (.aload_n 0) 1 36 = true := by decide +kernel
theorem zd3_36 : zDg 3 36 39 2 0 (.array (.object "ReleaseLeaves$StoredFile")) = true := by decide +kernel
theorem zd3_39 : zD 3 39 .arraylength 1 40 = true := by decide +kernel
theorem zd3_40 : zDm 3 40 .ge 62 43 = true := by decide +kernel
theorem zd3_43 : zD 3 43 (.aload_n 0) 1 44 = true := by decide +kernel
theorem zd3_44 : zDg 3 44 47 2 0 (.array (.object "ReleaseLeaves$StoredFile")) = true := by decide +kernel
theorem zd3_47 : zD 3 47 (.iload_n 1) 1 48 = true := by decide +kernel
theorem zd3_48 : zDw 3 48 51 4 = true := by decide +kernel
theorem zd3_51 : zD 3 51 .dup 1 52 = true := by decide +kernel
theorem zd3_52 : zDk 3 52 55 5 1 = true := by decide +kernel
theorem zd3_55 : zD 3 55 .aastore 1 56 = true := by decide +kernel
theorem zd3_56 : zDi 3 56 59 1 (Int32.ofNat 1) = true := by decide +kernel
theorem zd3_59 : zDj 3 59 34 = true := by decide +kernel
theorem zd3_62 : zDc 3 62 63 (Int32.ofNat 0) = true := by decide +kernel
theorem zd3_63 : zD 3 63 (.istore_n 1) 1 64 = true := by decide +kernel
theorem zd3_64 : zD 3 64 (.iload_n 1) 1 65 = true := by decide +kernel
theorem zd3_65 : zD 3 65 (.aload_n 0) 1 66 = true := by decide +kernel
theorem zd3_66 : zDg 3 66 69 2 3 (.array .int) = true := by decide +kernel
theorem zd3_69 : zD 3 69 .arraylength 1 70 = true := by decide +kernel
theorem zd3_70 : zDm 3 70 .ge 86 73 = true := by decide +kernel
theorem zd3_73 : zD 3 73 (.aload_n 0) 1 74 = true := by decide +kernel
theorem zd3_74 : zDg 3 74 77 2 3 (.array .int) = true := by decide +kernel
theorem zd3_77 : zD 3 77 (.iload_n 1) 1 78 = true := by decide +kernel
theorem zd3_78 : zDc 3 78 79 (-1) = true := by decide +kernel
theorem zd3_79 : zD 3 79 .iastore 1 80 = true := by decide +kernel
theorem zd3_80 : zDi 3 80 83 1 (Int32.ofNat 1) = true := by decide +kernel
theorem zd3_83 : zDj 3 83 64 = true := by decide +kernel
theorem zd3_86 : zD 3 86 .return_ 1 87 = true := by decide +kernel
theorem zd4_0 : zD 4 0 (.aload_n 0) 1 1 = true := by decide +kernel
theorem zd4_1 : zDo 4 1 4 = true := by decide +kernel
theorem zd4_4 : zD 4 4 (.aload_n 0) 1 5 = true := by decide +kernel
theorem zd4_5 : zDc 4 5 7 (Int32.ofNat 32) = true := by decide +kernel
theorem zd4_7 : zDc 4 7 9 (Int32.ofNat 32) = true := by decide +kernel
theorem zd4_9 : zDu 4 9 13 = true := by decide +kernel
theorem zd4_13 : zDp 4 13 16 3 0 (.array (.array .int)) = true := by decide +kernel
theorem zd4_16 : zD 4 16 (.aload_n 0) 1 17 = true := by decide +kernel
theorem zd4_17 : zDc 4 17 18 (Int32.ofNat 4) = true := by decide +kernel
theorem zd4_18 : zD 4 18 (.newarray .int) 2 20 = true := by decide +kernel
theorem zd4_20 : zDp 4 20 23 3 1 (.array .int) = true := by decide +kernel
theorem zd4_23 : zD 4 23 .return_ 1 24 = true := by decide +kernel
theorem zd5_0 : zD 5 0 (.aload_n 0) 1 1 = true := by decide +kernel
theorem zd5_1 : zDo 5 1 4 = true := by decide +kernel
theorem zd5_4 : zD 5 4 (.aload_n 0) 1 5 = true := by decide +kernel
theorem zd5_5 : zDc 5 5 7 (Int32.ofNat 64) = true := by decide +kernel
theorem zd5_7 : zD 5 7 (.newarray .int) 2 9 = true := by decide +kernel
theorem zd5_9 : zDp 5 9 12 4 1 (.array .int) = true := by decide +kernel
theorem zd5_12 : zD 5 12 .return_ 1 13 = true := by decide +kernel
theorem zd6_0 : zDs 6 0 3 1 = true := by decide +kernel
theorem zd6_3 : zDc 6 3 4 (Int32.ofNat 0) = true := by decide +kernel
theorem zd6_4 : zD 6 4 (.aload_n 0) 1 5 = true := by decide +kernel
theorem zd6_5 : zDg 6 5 8 1 0 (.array .int) = true := by decide +kernel
theorem zd6_8 : zDc 6 8 9 (Int32.ofNat 0) = true := by decide +kernel
theorem zd6_9 : zDc 6 9 11 (Int32.ofNat 8) = true := by decide +kernel
theorem zd6_11 : zDy 6 11 14 = true := by decide +kernel
theorem zd6_14 : zD 6 14 (.aload_n 0) 1 15 = true := by decide +kernel
theorem zd6_15 : zDc 6 15 16 (Int32.ofNat 0) = true := by decide +kernel
theorem zd6_16 : zDp 6 16 19 1 2 (.int) = true := by decide +kernel
theorem zd6_19 : zD 6 19 .return_ 1 20 = true := by decide +kernel
theorem zd7_0 : zD 7 0 (.aload_n 0) 1 1 = true := by decide +kernel
theorem zd7_1 : zDg 7 1 4 1 2 (.int) = true := by decide +kernel
theorem zd7_4 : zDc 7 4 6 (Int32.ofNat 8) = true := by decide +kernel
theorem zd7_6 : zD 7 6 .imul 1 7 = true := by decide +kernel
theorem zd7_7 : zD 7 7 (.istore_n 2) 1 8 = true := by decide +kernel
theorem zd7_8 : zD 7 8 (.aload_n 0) 1 9 = true := by decide +kernel
theorem zd7_9 : zDc 7 9 12 (Int32.ofNat 128) = true := by decide +kernel
theorem zd7_12 : zDk 7 12 15 8 0 = true := by decide +kernel
theorem zd7_15 : zDc 7 15 17 (Int32.ofNat 56) = true := by decide +kernel
theorem zd7_17 : zD 7 17 (.aload_n 0) 1 18 = true := by decide +kernel
theorem zd7_18 : zDg 7 18 21 1 2 (.int) = true := by decide +kernel
theorem zd7_21 : zD 7 21 .isub 1 22 = true := by decide +kernel
theorem zd7_22 : zDc 7 22 24 (Int32.ofNat 63) = true := by decide +kernel
theorem zd7_24 : zD 7 24 .iand 1 25 = true := by decide +kernel
theorem zd7_25 : zD 7 25 (.istore_n 3) 1 26 = true := by decide +kernel
theorem zd7_26 : zDc 7 26 27 (Int32.ofNat 0) = true := by decide +kernel
theorem zd7_27 : zD 7 27 (.istore 4) 2 29 = true := by decide +kernel
theorem zd7_29 : zD 7 29 (.iload 4) 2 31 = true := by decide +kernel
theorem zd7_31 : zD 7 31 (.iload_n 3) 1 32 = true := by decide +kernel
theorem zd7_32 : zDc 7 32 33 (Int32.ofNat 4) = true := by decide +kernel
theorem zd7_33 : zD 7 33 .iadd 1 34 = true := by decide +kernel
theorem zd7_34 : zDm 7 34 .ge 48 37 = true := by decide +kernel
theorem zd7_37 : zD 7 37 (.aload_n 0) 1 38 = true := by decide +kernel
theorem zd7_38 : zDc 7 38 39 (Int32.ofNat 0) = true := by decide +kernel
theorem zd7_39 : zDk 7 39 42 8 0 = true := by decide +kernel
theorem zd7_42 : zDi 7 42 45 4 (Int32.ofNat 1) = true := by decide +kernel
theorem zd7_45 : zDj 7 45 29 = true := by decide +kernel
theorem zd7_48 : zD 7 48 (.aload_n 0) 1 49 = true := by decide +kernel
theorem zd7_49 : zD 7 49 (.iload_n 2) 1 50 = true := by decide +kernel
theorem zd7_50 : zDc 7 50 52 (Int32.ofNat 24) = true := by decide +kernel
theorem zd7_52 : zD 7 52 .iushr 1 53 = true := by decide +kernel
theorem zd7_53 : zDk 7 53 56 8 0 = true := by decide +kernel
theorem zd7_56 : zD 7 56 (.aload_n 0) 1 57 = true := by decide +kernel
theorem zd7_57 : zD 7 57 (.iload_n 2) 1 58 = true := by decide +kernel
theorem zd7_58 : zDc 7 58 60 (Int32.ofNat 16) = true := by decide +kernel
theorem zd7_60 : zD 7 60 .iushr 1 61 = true := by decide +kernel
theorem zd7_61 : zDk 7 61 64 8 0 = true := by decide +kernel
theorem zd7_64 : zD 7 64 (.aload_n 0) 1 65 = true := by decide +kernel
theorem zd7_65 : zD 7 65 (.iload_n 2) 1 66 = true := by decide +kernel
theorem zd7_66 : zDc 7 66 68 (Int32.ofNat 8) = true := by decide +kernel
theorem zd7_68 : zD 7 68 .iushr 1 69 = true := by decide +kernel
theorem zd7_69 : zDk 7 69 72 8 0 = true := by decide +kernel
theorem zd7_72 : zD 7 72 (.aload_n 0) 1 73 = true := by decide +kernel
theorem zd7_73 : zD 7 73 (.iload_n 2) 1 74 = true := by decide +kernel
theorem zd7_74 : zDk 7 74 77 8 0 = true := by decide +kernel
theorem zd7_77 : zDc 7 77 78 (Int32.ofNat 0) = true := by decide +kernel
theorem zd7_78 : zD 7 78 (.istore 4) 2 80 = true := by decide +kernel
theorem zd7_80 : zD 7 80 (.iload 4) 2 82 = true := by decide +kernel
theorem zd7_82 : zDc 7 82 84 (Int32.ofNat 32) = true := by decide +kernel
theorem zd7_84 : zDm 7 84 .ge 128 87 = true := by decide +kernel
theorem zd7_87 : zD 7 87 (.iload 4) 2 89 = true := by decide +kernel
theorem zd7_89 : zD 7 89 (.aload_n 1) 1 90 = true := by decide +kernel
theorem zd7_90 : zD 7 90 .arraylength 1 91 = true := by decide +kernel
theorem zd7_91 : zDm 7 91 .ge 128 94 = true := by decide +kernel
theorem zd7_94 : zD 7 94 (.aload_n 1) 1 95 = true := by decide +kernel
theorem zd7_95 : zD 7 95 (.iload 4) 2 97 = true := by decide +kernel
theorem zd7_97 : zD 7 97 (.aload_n 0) 1 98 = true := by decide +kernel
theorem zd7_98 : zDg 7 98 101 1 0 (.array .int) = true := by decide +kernel
theorem zd7_101 : zD 7 101 (.iload 4) 2 103 = true := by decide +kernel
theorem zd7_103 : zDc 7 103 104 (Int32.ofNat 2) = true := by decide +kernel
theorem zd7_104 : zD 7 104 .ishr 1 105 = true := by decide +kernel
theorem zd7_105 : zD 7 105 .iaload 1 106 = true := by decide +kernel
theorem zd7_106 : zDc 7 106 108 (Int32.ofNat 24) = true := by decide +kernel
theorem zd7_108 : zDc 7 108 110 (Int32.ofNat 8) = true := by decide +kernel
theorem zd7_110 : zD 7 110 (.iload 4) 2 112 = true := by decide +kernel
theorem zd7_112 : zDc 7 112 113 (Int32.ofNat 3) = true := by decide +kernel
theorem zd7_113 : zD 7 113 .iand 1 114 = true := by decide +kernel
theorem zd7_114 : zD 7 114 .imul 1 115 = true := by decide +kernel
theorem zd7_115 : zD 7 115 .isub 1 116 = true := by decide +kernel
theorem zd7_116 : zD 7 116 .iushr 1 117 = true := by decide +kernel
theorem zd7_117 : zDc 7 117 120 (Int32.ofNat 255) = true := by decide +kernel
theorem zd7_120 : zD 7 120 .iand 1 121 = true := by decide +kernel
theorem zd7_121 : zD 7 121 .iastore 1 122 = true := by decide +kernel
theorem zd7_122 : zDi 7 122 125 4 (Int32.ofNat 1) = true := by decide +kernel
theorem zd7_125 : zDj 7 125 80 = true := by decide +kernel
theorem zd7_128 : zD 7 128 .return_ 1 129 = true := by decide +kernel
theorem zd8_0 : zD 8 0 (.aload_n 0) 1 1 = true := by decide +kernel
theorem zd8_1 : zDg 8 1 4 1 2 (.int) = true := by decide +kernel
theorem zd8_4 : zDc 8 4 6 (Int32.ofNat 63) = true := by decide +kernel
theorem zd8_6 : zD 8 6 .iand 1 7 = true := by decide +kernel
theorem zd8_7 : zD 8 7 (.istore_n 2) 1 8 = true := by decide +kernel
theorem zd8_8 : zD 8 8 (.iload_n 2) 1 9 = true := by decide +kernel
theorem zd8_9 : zDc 8 9 10 (Int32.ofNat 2) = true := by decide +kernel
theorem zd8_10 : zD 8 10 .ishr 1 11 = true := by decide +kernel
theorem zd8_11 : zD 8 11 (.istore_n 3) 1 12 = true := by decide +kernel
theorem zd8_12 : zD 8 12 (.aload_n 0) 1 13 = true := by decide +kernel
theorem zd8_13 : zDg 8 13 16 1 1 (.array .int) = true := by decide +kernel
theorem zd8_16 : zD 8 16 (.iload_n 3) 1 17 = true := by decide +kernel
theorem zd8_17 : zD 8 17 (.aload_n 0) 1 18 = true := by decide +kernel
theorem zd8_18 : zDg 8 18 21 1 1 (.array .int) = true := by decide +kernel
theorem zd8_21 : zD 8 21 (.iload_n 3) 1 22 = true := by decide +kernel
theorem zd8_22 : zD 8 22 .iaload 1 23 = true := by decide +kernel
theorem zd8_23 : zDc 8 23 25 (Int32.ofNat 8) = true := by decide +kernel
theorem zd8_25 : zD 8 25 .ishl 1 26 = true := by decide +kernel
theorem zd8_26 : zD 8 26 (.iload_n 1) 1 27 = true := by decide +kernel
theorem zd8_27 : zDc 8 27 30 (Int32.ofNat 255) = true := by decide +kernel
theorem zd8_30 : zD 8 30 .iand 1 31 = true := by decide +kernel
theorem zd8_31 : zD 8 31 .ior 1 32 = true := by decide +kernel
theorem zd8_32 : zD 8 32 .iastore 1 33 = true := by decide +kernel
theorem zd8_33 : zD 8 33 (.aload_n 0) 1 34 = true := by decide +kernel
theorem zd8_34 : zD 8 34 .dup 1 35 = true := by decide +kernel
theorem zd8_35 : zDg 8 35 38 1 2 (.int) = true := by decide +kernel
theorem zd8_38 : zDc 8 38 39 (Int32.ofNat 1) = true := by decide +kernel
theorem zd8_39 : zD 8 39 .iadd 1 40 = true := by decide +kernel
theorem zd8_40 : zDp 8 40 43 1 2 (.int) = true := by decide +kernel
theorem zd8_43 : zD 8 43 (.iload_n 2) 1 44 = true := by decide +kernel
theorem zd8_44 : zDc 8 44 46 (Int32.ofNat 63) = true := by decide +kernel
theorem zd8_46 : zDm 8 46 .ne 57 49 = true := by decide +kernel
theorem zd8_49 : zD 8 49 (.aload_n 0) 1 50 = true := by decide +kernel
theorem zd8_50 : zDk 8 50 53 9 0 = true := by decide +kernel
theorem zd8_53 : zD 8 53 (.aload_n 0) 1 54 = true := by decide +kernel
theorem zd8_54 : zDk 8 54 57 11 0 = true := by decide +kernel
theorem zd8_57 : zD 8 57 .return_ 1 58 = true := by decide +kernel
theorem zd9_0 : zDc 9 0 2 (Int32.ofNat 16) = true := by decide +kernel
theorem zd9_2 : zD 9 2 (.istore_n 1) 1 3 = true := by decide +kernel
theorem zd9_3 : zD 9 3 (.iload_n 1) 1 4 = true := by decide +kernel
theorem zd9_4 : zD 9 4 (.aload_n 0) 1 5 = true := by decide +kernel
theorem zd9_5 : zDg 9 5 8 1 1 (.array .int) = true := by decide +kernel
theorem zd9_8 : zD 9 8 .arraylength 1 9 = true := by decide +kernel
theorem zd9_9 : zDm 9 9 .ge 107 12 = true := by decide +kernel
theorem zd9_12 : zD 9 12 (.aload_n 0) 1 13 = true := by decide +kernel
theorem zd9_13 : zDg 9 13 16 1 1 (.array .int) = true := by decide +kernel
theorem zd9_16 : zD 9 16 (.iload_n 1) 1 17 = true := by decide +kernel
theorem zd9_17 : zDc 9 17 19 (Int32.ofNat 15) = true := by decide +kernel
theorem zd9_19 : zD 9 19 .isub 1 20 = true := by decide +kernel
theorem zd9_20 : zD 9 20 .iaload 1 21 = true := by decide +kernel
theorem zd9_21 : zD 9 21 (.istore_n 2) 1 22 = true := by decide +kernel
theorem zd9_22 : zD 9 22 (.aload_n 0) 1 23 = true := by decide +kernel
theorem zd9_23 : zDg 9 23 26 1 1 (.array .int) = true := by decide +kernel
theorem zd9_26 : zD 9 26 (.iload_n 1) 1 27 = true := by decide +kernel
theorem zd9_27 : zDc 9 27 28 (Int32.ofNat 2) = true := by decide +kernel
theorem zd9_28 : zD 9 28 .isub 1 29 = true := by decide +kernel
theorem zd9_29 : zD 9 29 .iaload 1 30 = true := by decide +kernel
theorem zd9_30 : zD 9 30 (.istore_n 3) 1 31 = true := by decide +kernel
theorem zd9_31 : zD 9 31 (.iload_n 2) 1 32 = true := by decide +kernel
theorem zd9_32 : zDc 9 32 34 (Int32.ofNat 7) = true := by decide +kernel
theorem zd9_34 : zDk 9 34 37 10 2 = true := by decide +kernel
theorem zd9_37 : zD 9 37 (.iload_n 2) 1 38 = true := by decide +kernel
theorem zd9_38 : zDc 9 38 40 (Int32.ofNat 18) = true := by decide +kernel
theorem zd9_40 : zDk 9 40 43 10 2 = true := by decide +kernel
theorem zd9_43 : zD 9 43 .ixor 1 44 = true := by decide +kernel
theorem zd9_44 : zD 9 44 (.iload_n 2) 1 45 = true := by decide +kernel
theorem zd9_45 : zDc 9 45 46 (Int32.ofNat 3) = true := by decide +kernel
theorem zd9_46 : zD 9 46 .iushr 1 47 = true := by decide +kernel
theorem zd9_47 : zD 9 47 .ixor 1 48 = true := by decide +kernel
theorem zd9_48 : zD 9 48 (.istore 4) 2 50 = true := by decide +kernel
theorem zd9_50 : zD 9 50 (.iload_n 3) 1 51 = true := by decide +kernel
theorem zd9_51 : zDc 9 51 53 (Int32.ofNat 17) = true := by decide +kernel
theorem zd9_53 : zDk 9 53 56 10 2 = true := by decide +kernel
theorem zd9_56 : zD 9 56 (.iload_n 3) 1 57 = true := by decide +kernel
theorem zd9_57 : zDc 9 57 59 (Int32.ofNat 19) = true := by decide +kernel
theorem zd9_59 : zDk 9 59 62 10 2 = true := by decide +kernel
theorem zd9_62 : zD 9 62 .ixor 1 63 = true := by decide +kernel
theorem zd9_63 : zD 9 63 (.iload_n 3) 1 64 = true := by decide +kernel
theorem zd9_64 : zDc 9 64 66 (Int32.ofNat 10) = true := by decide +kernel
theorem zd9_66 : zD 9 66 .iushr 1 67 = true := by decide +kernel
theorem zd9_67 : zD 9 67 .ixor 1 68 = true := by decide +kernel
theorem zd9_68 : zD 9 68 (.istore 5) 2 70 = true := by decide +kernel
theorem zd9_70 : zD 9 70 (.aload_n 0) 1 71 = true := by decide +kernel
theorem zd9_71 : zDg 9 71 74 1 1 (.array .int) = true := by decide +kernel
theorem zd9_74 : zD 9 74 (.iload_n 1) 1 75 = true := by decide +kernel
theorem zd9_75 : zD 9 75 (.aload_n 0) 1 76 = true := by decide +kernel
theorem zd9_76 : zDg 9 76 79 1 1 (.array .int) = true := by decide +kernel
theorem zd9_79 : zD 9 79 (.iload_n 1) 1 80 = true := by decide +kernel
theorem zd9_80 : zDc 9 80 82 (Int32.ofNat 16) = true := by decide +kernel
theorem zd9_82 : zD 9 82 .isub 1 83 = true := by decide +kernel
theorem zd9_83 : zD 9 83 .iaload 1 84 = true := by decide +kernel
theorem zd9_84 : zD 9 84 (.iload 4) 2 86 = true := by decide +kernel
theorem zd9_86 : zD 9 86 .iadd 1 87 = true := by decide +kernel
theorem zd9_87 : zD 9 87 (.aload_n 0) 1 88 = true := by decide +kernel
theorem zd9_88 : zDg 9 88 91 1 1 (.array .int) = true := by decide +kernel
theorem zd9_91 : zD 9 91 (.iload_n 1) 1 92 = true := by decide +kernel
theorem zd9_92 : zDc 9 92 94 (Int32.ofNat 7) = true := by decide +kernel
theorem zd9_94 : zD 9 94 .isub 1 95 = true := by decide +kernel
theorem zd9_95 : zD 9 95 .iaload 1 96 = true := by decide +kernel
theorem zd9_96 : zD 9 96 .iadd 1 97 = true := by decide +kernel
theorem zd9_97 : zD 9 97 (.iload 5) 2 99 = true := by decide +kernel
theorem zd9_99 : zD 9 99 .iadd 1 100 = true := by decide +kernel
theorem zd9_100 : zD 9 100 .iastore 1 101 = true := by decide +kernel
theorem zd9_101 : zDi 9 101 104 1 (Int32.ofNat 1) = true := by decide +kernel
theorem zd9_104 : zDj 9 104 3 = true := by decide +kernel
theorem zd9_107 : zD 9 107 .return_ 1 108 = true := by decide +kernel
theorem zd10_0 : zD 10 0 (.iload_n 0) 1 1 = true := by decide +kernel
theorem zd10_1 : zD 10 1 (.iload_n 1) 1 2 = true := by decide +kernel
theorem zd10_2 : zD 10 2 .iushr 1 3 = true := by decide +kernel
theorem zd10_3 : zD 10 3 (.iload_n 0) 1 4 = true := by decide +kernel
theorem zd10_4 : zDc 10 4 6 (Int32.ofNat 32) = true := by decide +kernel
theorem zd10_6 : zD 10 6 (.iload_n 1) 1 7 = true := by decide +kernel
theorem zd10_7 : zD 10 7 .isub 1 8 = true := by decide +kernel
theorem zd10_8 : zD 10 8 .ishl 1 9 = true := by decide +kernel
theorem zd10_9 : zD 10 9 .ior 1 10 = true := by decide +kernel
theorem zd10_10 : zD 10 10 .ireturn 1 11 = true := by decide +kernel
theorem zd11_0 : zD 11 0 (.aload_n 0) 1 1 = true := by decide +kernel
theorem zd11_1 : zDg 11 1 4 1 0 (.array .int) = true := by decide +kernel
theorem zd11_4 : zDc 11 4 5 (Int32.ofNat 0) = true := by decide +kernel
theorem zd11_5 : zD 11 5 .iaload 1 6 = true := by decide +kernel
theorem zd11_6 : zD 11 6 (.istore_n 1) 1 7 = true := by decide +kernel
theorem zd11_7 : zD 11 7 (.aload_n 0) 1 8 = true := by decide +kernel
theorem zd11_8 : zDg 11 8 11 1 0 (.array .int) = true := by decide +kernel
theorem zd11_11 : zDc 11 11 12 (Int32.ofNat 1) = true := by decide +kernel
theorem zd11_12 : zD 11 12 .iaload 1 13 = true := by decide +kernel
theorem zd11_13 : zD 11 13 (.istore_n 2) 1 14 = true := by decide +kernel
theorem zd11_14 : zD 11 14 (.aload_n 0) 1 15 = true := by decide +kernel
theorem zd11_15 : zDg 11 15 18 1 0 (.array .int) = true := by decide +kernel
theorem zd11_18 : zDc 11 18 19 (Int32.ofNat 2) = true := by decide +kernel
theorem zd11_19 : zD 11 19 .iaload 1 20 = true := by decide +kernel
theorem zd11_20 : zD 11 20 (.istore_n 3) 1 21 = true := by decide +kernel
theorem zd11_21 : zD 11 21 (.aload_n 0) 1 22 = true := by decide +kernel
theorem zd11_22 : zDg 11 22 25 1 0 (.array .int) = true := by decide +kernel
theorem zd11_25 : zDc 11 25 26 (Int32.ofNat 3) = true := by decide +kernel
theorem zd11_26 : zD 11 26 .iaload 1 27 = true := by decide +kernel
theorem zd11_27 : zD 11 27 (.istore 4) 2 29 = true := by decide +kernel
theorem zd11_29 : zD 11 29 (.aload_n 0) 1 30 = true := by decide +kernel
theorem zd11_30 : zDg 11 30 33 1 0 (.array .int) = true := by decide +kernel
theorem zd11_33 : zDc 11 33 34 (Int32.ofNat 4) = true := by decide +kernel
theorem zd11_34 : zD 11 34 .iaload 1 35 = true := by decide +kernel
theorem zd11_35 : zD 11 35 (.istore 5) 2 37 = true := by decide +kernel
theorem zd11_37 : zD 11 37 (.aload_n 0) 1 38 = true := by decide +kernel
theorem zd11_38 : zDg 11 38 41 1 0 (.array .int) = true := by decide +kernel
theorem zd11_41 : zDc 11 41 42 (Int32.ofNat 5) = true := by decide +kernel
theorem zd11_42 : zD 11 42 .iaload 1 43 = true := by decide +kernel
theorem zd11_43 : zD 11 43 (.istore 6) 2 45 = true := by decide +kernel
theorem zd11_45 : zD 11 45 (.aload_n 0) 1 46 = true := by decide +kernel
theorem zd11_46 : zDg 11 46 49 1 0 (.array .int) = true := by decide +kernel
theorem zd11_49 : zDc 11 49 51 (Int32.ofNat 6) = true := by decide +kernel
theorem zd11_51 : zD 11 51 .iaload 1 52 = true := by decide +kernel
theorem zd11_52 : zD 11 52 (.istore 7) 2 54 = true := by decide +kernel
theorem zd11_54 : zD 11 54 (.aload_n 0) 1 55 = true := by decide +kernel
theorem zd11_55 : zDg 11 55 58 1 0 (.array .int) = true := by decide +kernel
theorem zd11_58 : zDc 11 58 60 (Int32.ofNat 7) = true := by decide +kernel
theorem zd11_60 : zD 11 60 .iaload 1 61 = true := by decide +kernel
theorem zd11_61 : zD 11 61 (.istore 8) 2 63 = true := by decide +kernel
theorem zd11_63 : zDc 11 63 64 (Int32.ofNat 0) = true := by decide +kernel
theorem zd11_64 : zD 11 64 (.istore 9) 2 66 = true := by decide +kernel
theorem zd11_66 : zD 11 66 (.iload 9) 2 68 = true := by decide +kernel
theorem zd11_68 : zDs 11 68 71 2 = true := by decide +kernel
theorem zd11_71 : zD 11 71 .arraylength 1 72 = true := by decide +kernel
theorem zd11_72 : zDm 11 72 .ge 215 75 = true := by decide +kernel
theorem zd11_75 : zD 11 75 (.iload 5) 2 77 = true := by decide +kernel
theorem zd11_77 : zDc 11 77 79 (Int32.ofNat 6) = true := by decide +kernel
theorem zd11_79 : zDk 11 79 82 10 2 = true := by decide +kernel
theorem zd11_82 : zD 11 82 (.iload 5) 2 84 = true := by decide +kernel
theorem zd11_84 : zDc 11 84 86 (Int32.ofNat 11) = true := by decide +kernel
theorem zd11_86 : zDk 11 86 89 10 2 = true := by decide +kernel
theorem zd11_89 : zD 11 89 .ixor 1 90 = true := by decide +kernel
theorem zd11_90 : zD 11 90 (.iload 5) 2 92 = true := by decide +kernel
theorem zd11_92 : zDc 11 92 94 (Int32.ofNat 25) = true := by decide +kernel
theorem zd11_94 : zDk 11 94 97 10 2 = true := by decide +kernel
theorem zd11_97 : zD 11 97 .ixor 1 98 = true := by decide +kernel
theorem zd11_98 : zD 11 98 (.istore 10) 2 100 = true := by decide +kernel
theorem zd11_100 : zD 11 100 (.iload 5) 2 102 = true := by decide +kernel
theorem zd11_102 : zD 11 102 (.iload 6) 2 104 = true := by decide +kernel
theorem zd11_104 : zD 11 104 .iand 1 105 = true := by decide +kernel
theorem zd11_105 : zD 11 105 (.iload 5) 2 107 = true := by decide +kernel
theorem zd11_107 : zDc 11 107 108 (-1) = true := by decide +kernel
theorem zd11_108 : zD 11 108 .ixor 1 109 = true := by decide +kernel
theorem zd11_109 : zD 11 109 (.iload 7) 2 111 = true := by decide +kernel
theorem zd11_111 : zD 11 111 .iand 1 112 = true := by decide +kernel
theorem zd11_112 : zD 11 112 .ixor 1 113 = true := by decide +kernel
theorem zd11_113 : zD 11 113 (.istore 11) 2 115 = true := by decide +kernel
theorem zd11_115 : zD 11 115 (.iload 8) 2 117 = true := by decide +kernel
theorem zd11_117 : zD 11 117 (.iload 10) 2 119 = true := by decide +kernel
theorem zd11_119 : zD 11 119 .iadd 1 120 = true := by decide +kernel
theorem zd11_120 : zD 11 120 (.iload 11) 2 122 = true := by decide +kernel
theorem zd11_122 : zD 11 122 .iadd 1 123 = true := by decide +kernel
theorem zd11_123 : zDs 11 123 126 2 = true := by decide +kernel
theorem zd11_126 : zD 11 126 (.iload 9) 2 128 = true := by decide +kernel
theorem zd11_128 : zD 11 128 .iaload 1 129 = true := by decide +kernel
theorem zd11_129 : zD 11 129 .iadd 1 130 = true := by decide +kernel
theorem zd11_130 : zD 11 130 (.aload_n 0) 1 131 = true := by decide +kernel
theorem zd11_131 : zDg 11 131 134 1 1 (.array .int) = true := by decide +kernel
theorem zd11_134 : zD 11 134 (.iload 9) 2 136 = true := by decide +kernel
theorem zd11_136 : zD 11 136 .iaload 1 137 = true := by decide +kernel
theorem zd11_137 : zD 11 137 .iadd 1 138 = true := by decide +kernel
theorem zd11_138 : zD 11 138 (.istore 12) 2 140 = true := by decide +kernel
theorem zd11_140 : zD 11 140 (.iload_n 1) 1 141 = true := by decide +kernel
theorem zd11_141 : zDc 11 141 142 (Int32.ofNat 2) = true := by decide +kernel
theorem zd11_142 : zDk 11 142 145 10 2 = true := by decide +kernel
theorem zd11_145 : zD 11 145 (.iload_n 1) 1 146 = true := by decide +kernel
theorem zd11_146 : zDc 11 146 148 (Int32.ofNat 13) = true := by decide +kernel
theorem zd11_148 : zDk 11 148 151 10 2 = true := by decide +kernel
theorem zd11_151 : zD 11 151 .ixor 1 152 = true := by decide +kernel
theorem zd11_152 : zD 11 152 (.iload_n 1) 1 153 = true := by decide +kernel
theorem zd11_153 : zDc 11 153 155 (Int32.ofNat 22) = true := by decide +kernel
theorem zd11_155 : zDk 11 155 158 10 2 = true := by decide +kernel
theorem zd11_158 : zD 11 158 .ixor 1 159 = true := by decide +kernel
theorem zd11_159 : zD 11 159 (.istore 13) 2 161 = true := by decide +kernel
theorem zd11_161 : zD 11 161 (.iload_n 1) 1 162 = true := by decide +kernel
theorem zd11_162 : zD 11 162 (.iload_n 2) 1 163 = true := by decide +kernel
theorem zd11_163 : zD 11 163 .iand 1 164 = true := by decide +kernel
theorem zd11_164 : zD 11 164 (.iload_n 1) 1 165 = true := by decide +kernel
theorem zd11_165 : zD 11 165 (.iload_n 3) 1 166 = true := by decide +kernel
theorem zd11_166 : zD 11 166 .iand 1 167 = true := by decide +kernel
theorem zd11_167 : zD 11 167 .ixor 1 168 = true := by decide +kernel
theorem zd11_168 : zD 11 168 (.iload_n 2) 1 169 = true := by decide +kernel
theorem zd11_169 : zD 11 169 (.iload_n 3) 1 170 = true := by decide +kernel
theorem zd11_170 : zD 11 170 .iand 1 171 = true := by decide +kernel
theorem zd11_171 : zD 11 171 .ixor 1 172 = true := by decide +kernel
theorem zd11_172 : zD 11 172 (.istore 14) 2 174 = true := by decide +kernel
theorem zd11_174 : zD 11 174 (.iload 7) 2 176 = true := by decide +kernel
theorem zd11_176 : zD 11 176 (.istore 8) 2 178 = true := by decide +kernel
theorem zd11_178 : zD 11 178 (.iload 6) 2 180 = true := by decide +kernel
theorem zd11_180 : zD 11 180 (.istore 7) 2 182 = true := by decide +kernel
theorem zd11_182 : zD 11 182 (.iload 5) 2 184 = true := by decide +kernel
theorem zd11_184 : zD 11 184 (.istore 6) 2 186 = true := by decide +kernel
theorem zd11_186 : zD 11 186 (.iload 4) 2 188 = true := by decide +kernel
theorem zd11_188 : zD 11 188 (.iload 12) 2 190 = true := by decide +kernel
theorem zd11_190 : zD 11 190 .iadd 1 191 = true := by decide +kernel
theorem zd11_191 : zD 11 191 (.istore 5) 2 193 = true := by decide +kernel
theorem zd11_193 : zD 11 193 (.iload_n 3) 1 194 = true := by decide +kernel
theorem zd11_194 : zD 11 194 (.istore 4) 2 196 = true := by decide +kernel
theorem zd11_196 : zD 11 196 (.iload_n 2) 1 197 = true := by decide +kernel
theorem zd11_197 : zD 11 197 (.istore_n 3) 1 198 = true := by decide +kernel
theorem zd11_198 : zD 11 198 (.iload_n 1) 1 199 = true := by decide +kernel
theorem zd11_199 : zD 11 199 (.istore_n 2) 1 200 = true := by decide +kernel
theorem zd11_200 : zD 11 200 (.iload 12) 2 202 = true := by decide +kernel
theorem zd11_202 : zD 11 202 (.iload 13) 2 204 = true := by decide +kernel
theorem zd11_204 : zD 11 204 .iadd 1 205 = true := by decide +kernel
theorem zd11_205 : zD 11 205 (.iload 14) 2 207 = true := by decide +kernel
theorem zd11_207 : zD 11 207 .iadd 1 208 = true := by decide +kernel
theorem zd11_208 : zD 11 208 (.istore_n 1) 1 209 = true := by decide +kernel
theorem zd11_209 : zDi 11 209 212 9 (Int32.ofNat 1) = true := by decide +kernel
theorem zd11_212 : zDj 11 212 66 = true := by decide +kernel
theorem zd11_215 : zD 11 215 (.aload_n 0) 1 216 = true := by decide +kernel
theorem zd11_216 : zDg 11 216 219 1 0 (.array .int) = true := by decide +kernel
theorem zd11_219 : zDc 11 219 220 (Int32.ofNat 0) = true := by decide +kernel
theorem zd11_220 : zD 11 220 .dup2 1 221 = true := by decide +kernel
theorem zd11_221 : zD 11 221 .iaload 1 222 = true := by decide +kernel
theorem zd11_222 : zD 11 222 (.iload_n 1) 1 223 = true := by decide +kernel
theorem zd11_223 : zD 11 223 .iadd 1 224 = true := by decide +kernel
theorem zd11_224 : zD 11 224 .iastore 1 225 = true := by decide +kernel
theorem zd11_225 : zD 11 225 (.aload_n 0) 1 226 = true := by decide +kernel
theorem zd11_226 : zDg 11 226 229 1 0 (.array .int) = true := by decide +kernel
theorem zd11_229 : zDc 11 229 230 (Int32.ofNat 1) = true := by decide +kernel
theorem zd11_230 : zD 11 230 .dup2 1 231 = true := by decide +kernel
theorem zd11_231 : zD 11 231 .iaload 1 232 = true := by decide +kernel
theorem zd11_232 : zD 11 232 (.iload_n 2) 1 233 = true := by decide +kernel
theorem zd11_233 : zD 11 233 .iadd 1 234 = true := by decide +kernel
theorem zd11_234 : zD 11 234 .iastore 1 235 = true := by decide +kernel
theorem zd11_235 : zD 11 235 (.aload_n 0) 1 236 = true := by decide +kernel
theorem zd11_236 : zDg 11 236 239 1 0 (.array .int) = true := by decide +kernel
theorem zd11_239 : zDc 11 239 240 (Int32.ofNat 2) = true := by decide +kernel
theorem zd11_240 : zD 11 240 .dup2 1 241 = true := by decide +kernel
theorem zd11_241 : zD 11 241 .iaload 1 242 = true := by decide +kernel
theorem zd11_242 : zD 11 242 (.iload_n 3) 1 243 = true := by decide +kernel
theorem zd11_243 : zD 11 243 .iadd 1 244 = true := by decide +kernel
theorem zd11_244 : zD 11 244 .iastore 1 245 = true := by decide +kernel
theorem zd11_245 : zD 11 245 (.aload_n 0) 1 246 = true := by decide +kernel
theorem zd11_246 : zDg 11 246 249 1 0 (.array .int) = true := by decide +kernel
theorem zd11_249 : zDc 11 249 250 (Int32.ofNat 3) = true := by decide +kernel
theorem zd11_250 : zD 11 250 .dup2 1 251 = true := by decide +kernel
theorem zd11_251 : zD 11 251 .iaload 1 252 = true := by decide +kernel
theorem zd11_252 : zD 11 252 (.iload 4) 2 254 = true := by decide +kernel
theorem zd11_254 : zD 11 254 .iadd 1 255 = true := by decide +kernel
theorem zd11_255 : zD 11 255 .iastore 1 256 = true := by decide +kernel
theorem zd11_256 : zD 11 256 (.aload_n 0) 1 257 = true := by decide +kernel
theorem zd11_257 : zDg 11 257 260 1 0 (.array .int) = true := by decide +kernel
theorem zd11_260 : zDc 11 260 261 (Int32.ofNat 4) = true := by decide +kernel
theorem zd11_261 : zD 11 261 .dup2 1 262 = true := by decide +kernel
theorem zd11_262 : zD 11 262 .iaload 1 263 = true := by decide +kernel
theorem zd11_263 : zD 11 263 (.iload 5) 2 265 = true := by decide +kernel
theorem zd11_265 : zD 11 265 .iadd 1 266 = true := by decide +kernel
theorem zd11_266 : zD 11 266 .iastore 1 267 = true := by decide +kernel
theorem zd11_267 : zD 11 267 (.aload_n 0) 1 268 = true := by decide +kernel
theorem zd11_268 : zDg 11 268 271 1 0 (.array .int) = true := by decide +kernel
theorem zd11_271 : zDc 11 271 272 (Int32.ofNat 5) = true := by decide +kernel
theorem zd11_272 : zD 11 272 .dup2 1 273 = true := by decide +kernel
theorem zd11_273 : zD 11 273 .iaload 1 274 = true := by decide +kernel
theorem zd11_274 : zD 11 274 (.iload 6) 2 276 = true := by decide +kernel
theorem zd11_276 : zD 11 276 .iadd 1 277 = true := by decide +kernel
theorem zd11_277 : zD 11 277 .iastore 1 278 = true := by decide +kernel
theorem zd11_278 : zD 11 278 (.aload_n 0) 1 279 = true := by decide +kernel
theorem zd11_279 : zDg 11 279 282 1 0 (.array .int) = true := by decide +kernel
theorem zd11_282 : zDc 11 282 284 (Int32.ofNat 6) = true := by decide +kernel
theorem zd11_284 : zD 11 284 .dup2 1 285 = true := by decide +kernel
theorem zd11_285 : zD 11 285 .iaload 1 286 = true := by decide +kernel
theorem zd11_286 : zD 11 286 (.iload 7) 2 288 = true := by decide +kernel
theorem zd11_288 : zD 11 288 .iadd 1 289 = true := by decide +kernel
theorem zd11_289 : zD 11 289 .iastore 1 290 = true := by decide +kernel
theorem zd11_290 : zD 11 290 (.aload_n 0) 1 291 = true := by decide +kernel
theorem zd11_291 : zDg 11 291 294 1 0 (.array .int) = true := by decide +kernel
theorem zd11_294 : zDc 11 294 296 (Int32.ofNat 7) = true := by decide +kernel
theorem zd11_296 : zD 11 296 .dup2 1 297 = true := by decide +kernel
theorem zd11_297 : zD 11 297 .iaload 1 298 = true := by decide +kernel
theorem zd11_298 : zD 11 298 (.iload 8) 2 300 = true := by decide +kernel
theorem zd11_300 : zD 11 300 .iadd 1 301 = true := by decide +kernel
theorem zd11_301 : zD 11 301 .iastore 1 302 = true := by decide +kernel
theorem zd11_302 : zD 11 302 .return_ 1 303 = true := by decide +kernel
theorem zd12_0 : zD 12 0 (.aload_n 0) 1 1 = true := by decide +kernel
theorem zd12_1 : zDo 12 1 4 = true := by decide +kernel
theorem zd12_4 : zD 12 4 (.aload_n 0) 1 5 = true := by decide +kernel
theorem zd12_5 : zDc 12 5 7 (Int32.ofNat 100) = true := by decide +kernel
theorem zd12_7 : zD 12 7 (.newarray .int) 2 9 = true := by decide +kernel
theorem zd12_9 : zDp 12 9 12 5 0 (.array .int) = true := by decide +kernel
theorem zd12_12 : zD 12 12 (.aload_n 0) 1 13 = true := by decide +kernel
theorem zd12_13 : zDc 12 13 15 (Int32.ofNat 100) = true := by decide +kernel
theorem zd12_15 : zD 12 15 (.newarray .int) 2 17 = true := by decide +kernel
theorem zd12_17 : zDp 12 17 20 5 1 (.array .int) = true := by decide +kernel
theorem zd12_20 : zD 12 20 (.aload_n 0) 1 21 = true := by decide +kernel
theorem zd12_21 : zDc 12 21 23 (Int32.ofNat 100) = true := by decide +kernel
theorem zd12_23 : zD 12 23 (.newarray .int) 2 25 = true := by decide +kernel
theorem zd12_25 : zDp 12 25 28 5 2 (.array .int) = true := by decide +kernel
theorem zd12_28 : zD 12 28 (.aload_n 0) 1 29 = true := by decide +kernel
theorem zd12_29 : zDc 12 29 31 (Int32.ofNat 100) = true := by decide +kernel
theorem zd12_31 : zD 12 31 (.newarray .int) 2 33 = true := by decide +kernel
theorem zd12_33 : zDp 12 33 36 5 3 (.array .int) = true := by decide +kernel
theorem zd12_36 : zD 12 36 .return_ 1 37 = true := by decide +kernel
theorem zd13_0 : zD 13 0 (.aload_n 0) 1 1 = true := by decide +kernel
theorem zd13_1 : zDo 13 1 4 = true := by decide +kernel
theorem zd13_4 : zD 13 4 (.aload_n 0) 1 5 = true := by decide +kernel
theorem zd13_5 : zDc 13 5 8 (Int32.ofNat 300) = true := by decide +kernel
theorem zd13_8 : zD 13 8 (.newarray .int) 2 10 = true := by decide +kernel
theorem zd13_10 : zDp 13 10 13 6 0 (.array .int) = true := by decide +kernel
theorem zd13_13 : zD 13 13 .return_ 1 14 = true := by decide +kernel
theorem zd14_0 : zD 14 0 (.aload_n 0) 1 1 = true := by decide +kernel
theorem zd14_1 : zDg 14 1 4 0 2 (.int) = true := by decide +kernel
theorem zd14_4 : zDc 14 4 6 (Int32.ofNat 10) = true := by decide +kernel
theorem zd14_6 : zDm 14 6 .lt 11 9 = true := by decide +kernel
theorem zd14_9 : zDc 14 9 10 (-1) = true := by decide +kernel
theorem zd14_10 : zD 14 10 .ireturn 1 11 = true := by decide +kernel
theorem zd14_11 : zD 14 11 (.aload_n 0) 1 12 = true := by decide +kernel
theorem zd14_12 : zDg 14 12 15 0 2 (.int) = true := by decide +kernel
theorem zd14_15 : zD 14 15 (.istore_n 1) 1 16 = true := by decide +kernel
theorem zd14_16 : zD 14 16 (.aload_n 0) 1 17 = true := by decide +kernel
theorem zd14_17 : zDg 14 17 20 0 1 (.array (.object "ReleaseLeaves$Release")) = true := by decide +kernel
theorem zd14_20 : zD 14 20 (.iload_n 1) 1 21 = true := by decide +kernel
theorem zd14_21 : zD 14 21 .aaload 1 22 = true := by decide +kernel
theorem zd14_22 : zD 14 22 (.astore_n 2) 1 23 = true := by decide +kernel
theorem zd14_23 : zD 14 23 (.aload_n 2) 1 24 = true := by decide +kernel
theorem zd14_24 : zDk 14 24 27 15 0 = true := by decide +kernel
theorem zd14_27 : zD 14 27 (.aload_n 2) 1 28 = true := by decide +kernel
theorem zd14_28 : zDg 14 28 31 2 2 (.object "ReleaseLeaves$Tree") = true := by decide +kernel
theorem zd14_31 : zD 14 31 (.aload_n 2) 1 32 = true := by decide +kernel
theorem zd14_32 : zDg 14 32 35 2 0 (.array (.object "ReleaseLeaves$StoredFile")) = true := by decide +kernel
theorem zd14_35 : zD 14 35 (.aload_n 2) 1 36 = true := by decide +kernel
theorem zd14_36 : zDg 14 36 39 2 1 (.int) = true := by decide +kernel
theorem zd14_39 : zD 14 39 (.aload_n 0) 1 40 = true := by decide +kernel
theorem zd14_40 : zDg 14 40 43 0 0 (.object "ReleaseLeaves$Digester") = true := by decide +kernel
theorem zd14_43 : zDk 14 43 46 16 0 = true := by decide +kernel
theorem zd14_46 : zD 14 46 (.aload_n 0) 1 47 = true := by decide +kernel
theorem zd14_47 : zDg 14 47 50 0 0 (.object "ReleaseLeaves$Digester") = true := by decide +kernel
theorem zd14_50 : zDk 14 50 53 6 0 = true := by decide +kernel
theorem zd14_53 : zD 14 53 (.aload_n 0) 1 54 = true := by decide +kernel
theorem zd14_54 : zDg 14 54 57 0 0 (.object "ReleaseLeaves$Digester") = true := by decide +kernel
theorem zd14_57 : zD 14 57 (.aload_n 0) 1 58 = true := by decide +kernel
theorem zd14_58 : zDg 14 58 61 0 3 (.array (.array .int)) = true := by decide +kernel
theorem zd14_61 : zD 14 61 (.iload_n 1) 1 62 = true := by decide +kernel
theorem zd14_62 : zD 14 62 .aaload 1 63 = true := by decide +kernel
theorem zd14_63 : zDk 14 63 66 21 0 = true := by decide +kernel
theorem zd14_66 : zD 14 66 (.aload_n 0) 1 67 = true := by decide +kernel
theorem zd14_67 : zDg 14 67 70 0 0 (.object "ReleaseLeaves$Digester") = true := by decide +kernel
theorem zd14_70 : zD 14 70 (.aload_n 2) 1 71 = true := by decide +kernel
theorem zd14_71 : zDg 14 71 74 2 2 (.object "ReleaseLeaves$Tree") = true := by decide +kernel
theorem zd14_74 : zDk 14 74 77 22 0 = true := by decide +kernel
theorem zd14_77 : zDk 14 77 80 21 0 = true := by decide +kernel
theorem zd14_80 : zD 14 80 (.aload_n 0) 1 81 = true := by decide +kernel
theorem zd14_81 : zDg 14 81 84 0 0 (.object "ReleaseLeaves$Digester") = true := by decide +kernel
theorem zd14_84 : zD 14 84 (.aload_n 0) 1 85 = true := by decide +kernel
theorem zd14_85 : zDg 14 85 88 0 3 (.array (.array .int)) = true := by decide +kernel
theorem zd14_88 : zD 14 88 (.iload_n 1) 1 89 = true := by decide +kernel
theorem zd14_89 : zDc 14 89 90 (Int32.ofNat 1) = true := by decide +kernel
theorem zd14_90 : zD 14 90 .iadd 1 91 = true := by decide +kernel
theorem zd14_91 : zD 14 91 .aaload 1 92 = true := by decide +kernel
theorem zd14_92 : zDk 14 92 95 7 0 = true := by decide +kernel
theorem zd14_95 : zD 14 95 (.aload_n 0) 1 96 = true := by decide +kernel
theorem zd14_96 : zD 14 96 (.iload_n 1) 1 97 = true := by decide +kernel
theorem zd14_97 : zDc 14 97 98 (Int32.ofNat 1) = true := by decide +kernel
theorem zd14_98 : zD 14 98 .iadd 1 99 = true := by decide +kernel
theorem zd14_99 : zDp 14 99 102 0 2 (.int) = true := by decide +kernel
theorem zd14_102 : zD 14 102 (.iload_n 1) 1 103 = true := by decide +kernel
theorem zd14_103 : zD 14 103 .ireturn 1 104 = true := by decide +kernel
theorem zd15_0 : zDc 15 0 1 (Int32.ofNat 1) = true := by decide +kernel
theorem zd15_1 : zD 15 1 (.istore_n 1) 1 2 = true := by decide +kernel
theorem zd15_2 : zD 15 2 (.iload_n 1) 1 3 = true := by decide +kernel
theorem zd15_3 : zD 15 3 (.aload_n 0) 1 4 = true := by decide +kernel
theorem zd15_4 : zDg 15 4 7 2 1 (.int) = true := by decide +kernel
theorem zd15_7 : zDm 15 7 .ge 74 10 = true := by decide +kernel
theorem zd15_10 : zD 15 10 (.aload_n 0) 1 11 = true := by decide +kernel
theorem zd15_11 : zDg 15 11 14 2 0 (.array (.object "ReleaseLeaves$StoredFile")) = true := by decide +kernel
theorem zd15_14 : zD 15 14 (.iload_n 1) 1 15 = true := by decide +kernel
theorem zd15_15 : zD 15 15 .aaload 1 16 = true := by decide +kernel
theorem zd15_16 : zD 15 16 (.astore_n 2) 1 17 = true := by decide +kernel
theorem zd15_17 : zD 15 17 (.iload_n 1) 1 18 = true := by decide +kernel
theorem zd15_18 : zD 15 18 (.istore_n 3) 1 19 = true := by decide +kernel
theorem zd15_19 : zD 15 19 (.iload_n 3) 1 20 = true := by decide +kernel
theorem zd15_20 : zDf 15 20 .le 61 23 = true := by decide +kernel
theorem zd15_23 : zD 15 23 (.aload_n 0) 1 24 = true := by decide +kernel
theorem zd15_24 : zDg 15 24 27 2 0 (.array (.object "ReleaseLeaves$StoredFile")) = true := by decide +kernel
theorem zd15_27 : zD 15 27 (.iload_n 3) 1 28 = true := by decide +kernel
theorem zd15_28 : zDc 15 28 29 (Int32.ofNat 1) = true := by decide +kernel
theorem zd15_29 : zD 15 29 .isub 1 30 = true := by decide +kernel
theorem zd15_30 : zD 15 30 .aaload 1 31 = true := by decide +kernel
theorem zd15_31 : zDg 15 31 34 4 0 (.int) = true := by decide +kernel
theorem zd15_34 : zD 15 34 (.aload_n 2) 1 35 = true := by decide +kernel
theorem zd15_35 : zDg 15 35 38 4 0 (.int) = true := by decide +kernel
theorem zd15_38 : zDm 15 38 .le 61 41 = true := by decide +kernel
theorem zd15_41 : zD 15 41 (.aload_n 0) 1 42 = true := by decide +kernel
theorem zd15_42 : zDg 15 42 45 2 0 (.array (.object "ReleaseLeaves$StoredFile")) = true := by decide +kernel
theorem zd15_45 : zD 15 45 (.iload_n 3) 1 46 = true := by decide +kernel
theorem zd15_46 : zD 15 46 (.aload_n 0) 1 47 = true := by decide +kernel
theorem zd15_47 : zDg 15 47 50 2 0 (.array (.object "ReleaseLeaves$StoredFile")) = true := by decide +kernel
theorem zd15_50 : zD 15 50 (.iload_n 3) 1 51 = true := by decide +kernel
theorem zd15_51 : zDc 15 51 52 (Int32.ofNat 1) = true := by decide +kernel
theorem zd15_52 : zD 15 52 .isub 1 53 = true := by decide +kernel
theorem zd15_53 : zD 15 53 .aaload 1 54 = true := by decide +kernel
theorem zd15_54 : zD 15 54 .aastore 1 55 = true := by decide +kernel
theorem zd15_55 : zDi 15 55 58 3 (-(Int32.ofNat 1)) = true := by decide +kernel
theorem zd15_58 : zDj 15 58 19 = true := by decide +kernel
theorem zd15_61 : zD 15 61 (.aload_n 0) 1 62 = true := by decide +kernel
theorem zd15_62 : zDg 15 62 65 2 0 (.array (.object "ReleaseLeaves$StoredFile")) = true := by decide +kernel
theorem zd15_65 : zD 15 65 (.iload_n 3) 1 66 = true := by decide +kernel
theorem zd15_66 : zD 15 66 (.aload_n 2) 1 67 = true := by decide +kernel
theorem zd15_67 : zD 15 67 .aastore 1 68 = true := by decide +kernel
theorem zd15_68 : zDi 15 68 71 1 (Int32.ofNat 1) = true := by decide +kernel
theorem zd15_71 : zDj 15 71 2 = true := by decide +kernel
theorem zd15_74 : zD 15 74 .return_ 1 75 = true := by decide +kernel
theorem zd16_0 : zD 16 0 (.aload_n 3) 1 1 = true := by decide +kernel
theorem zd16_1 : zDk 16 1 4 6 0 = true := by decide +kernel
theorem zd16_4 : zD 16 4 (.aload_n 3) 1 5 = true := by decide +kernel
theorem zd16_5 : zD 16 5 (.aload_n 0) 1 6 = true := by decide +kernel
theorem zd16_6 : zDc 16 6 7 (Int32.ofNat 0) = true := by decide +kernel
theorem zd16_7 : zDc 16 7 8 (Int32.ofNat 0) = true := by decide +kernel
theorem zd16_8 : zDk 16 8 11 17 0 = true := by decide +kernel
theorem zd16_11 : zDk 16 11 14 7 0 = true := by decide +kernel
theorem zd16_14 : zDc 16 14 15 (Int32.ofNat 0) = true := by decide +kernel
theorem zd16_15 : zD 16 15 (.istore 4) 2 17 = true := by decide +kernel
theorem zd16_17 : zD 16 17 (.iload 4) 2 19 = true := by decide +kernel
theorem zd16_19 : zD 16 19 (.iload_n 2) 1 20 = true := by decide +kernel
theorem zd16_20 : zDm 16 20 .ge 44 23 = true := by decide +kernel
theorem zd16_23 : zD 16 23 (.aload_n 1) 1 24 = true := by decide +kernel
theorem zd16_24 : zD 16 24 (.iload 4) 2 26 = true := by decide +kernel
theorem zd16_26 : zD 16 26 .aaload 1 27 = true := by decide +kernel
theorem zd16_27 : zD 16 27 (.aload_n 3) 1 28 = true := by decide +kernel
theorem zd16_28 : zD 16 28 (.aload_n 0) 1 29 = true := by decide +kernel
theorem zd16_29 : zDc 16 29 30 (Int32.ofNat 0) = true := by decide +kernel
theorem zd16_30 : zD 16 30 (.iload 4) 2 32 = true := by decide +kernel
theorem zd16_32 : zDk 16 32 35 17 0 = true := by decide +kernel
theorem zd16_35 : zDk 16 35 38 18 0 = true := by decide +kernel
theorem zd16_38 : zDi 16 38 41 4 (Int32.ofNat 1) = true := by decide +kernel
theorem zd16_41 : zDj 16 41 17 = true := by decide +kernel
theorem zd16_44 : zD 16 44 (.aload_n 0) 1 45 = true := by decide +kernel
theorem zd16_45 : zDg 16 45 48 3 1 (.array .int) = true := by decide +kernel
theorem zd16_48 : zDc 16 48 49 (Int32.ofNat 0) = true := by decide +kernel
theorem zd16_49 : zD 16 49 (.iload_n 2) 1 50 = true := by decide +kernel
theorem zd16_50 : zD 16 50 .iastore 1 51 = true := by decide +kernel
theorem zd16_51 : zDc 16 51 52 (Int32.ofNat 0) = true := by decide +kernel
theorem zd16_52 : zD 16 52 (.istore 4) 2 54 = true := by decide +kernel
theorem zd16_54 : zD 16 54 (.iload 4) 2 56 = true := by decide +kernel
theorem zd16_56 : zDc 16 56 57 (Int32.ofNat 1) = true := by decide +kernel
theorem zd16_57 : zD 16 57 .iadd 1 58 = true := by decide +kernel
theorem zd16_58 : zDc 16 58 59 (Int32.ofNat 4) = true := by decide +kernel
theorem zd16_59 : zDm 16 59 .ge 94 62 = true := by decide +kernel
theorem zd16_62 : zD 16 62 (.aload_n 0) 1 63 = true := by decide +kernel
theorem zd16_63 : zDg 16 63 66 3 1 (.array .int) = true := by decide +kernel
theorem zd16_66 : zD 16 66 (.iload 4) 2 68 = true := by decide +kernel
theorem zd16_68 : zD 16 68 .iaload 1 69 = true := by decide +kernel
theorem zd16_69 : zDc 16 69 70 (Int32.ofNat 1) = true := by decide +kernel
theorem zd16_70 : zDm 16 70 .le 94 73 = true := by decide +kernel
theorem zd16_73 : zD 16 73 (.aload_n 0) 1 74 = true := by decide +kernel
theorem zd16_74 : zD 16 74 (.iload 4) 2 76 = true := by decide +kernel
theorem zd16_76 : zD 16 76 (.aload_n 3) 1 77 = true := by decide +kernel
theorem zd16_77 : zDk 16 77 80 20 0 = true := by decide +kernel
theorem zd16_80 : zD 16 80 (.aload_n 0) 1 81 = true := by decide +kernel
theorem zd16_81 : zD 16 81 (.iload 4) 2 83 = true := by decide +kernel
theorem zd16_83 : zDc 16 83 84 (Int32.ofNat 1) = true := by decide +kernel
theorem zd16_84 : zD 16 84 .iadd 1 85 = true := by decide +kernel
theorem zd16_85 : zDp 16 85 88 3 2 (.int) = true := by decide +kernel
theorem zd16_88 : zDi 16 88 91 4 (Int32.ofNat 1) = true := by decide +kernel
theorem zd16_91 : zDj 16 91 54 = true := by decide +kernel
theorem zd16_94 : zD 16 94 .return_ 1 95 = true := by decide +kernel
theorem zd17_0 : zD 17 0 (.aload_n 0) 1 1 = true := by decide +kernel
theorem zd17_1 : zDg 17 1 4 3 0 (.array (.array .int)) = true := by decide +kernel
theorem zd17_4 : zD 17 4 (.iload_n 1) 1 5 = true := by decide +kernel
theorem zd17_5 : zDc 17 5 7 (Int32.ofNat 8) = true := by decide +kernel
theorem zd17_7 : zD 17 7 .imul 1 8 = true := by decide +kernel
theorem zd17_8 : zD 17 8 (.iload_n 2) 1 9 = true := by decide +kernel
theorem zd17_9 : zD 17 9 .iadd 1 10 = true := by decide +kernel
theorem zd17_10 : zD 17 10 .aaload 1 11 = true := by decide +kernel
theorem zd17_11 : zD 17 11 .areturn 1 12 = true := by decide +kernel
theorem zd18_0 : zD 18 0 (.aload_n 1) 1 1 = true := by decide +kernel
theorem zd18_1 : zDk 18 1 4 6 0 = true := by decide +kernel
theorem zd18_4 : zD 18 4 (.aload_n 1) 1 5 = true := by decide +kernel
theorem zd18_5 : zDc 18 5 6 (Int32.ofNat 0) = true := by decide +kernel
theorem zd18_6 : zDk 18 6 9 8 0 = true := by decide +kernel
theorem zd18_9 : zD 18 9 (.aload_n 1) 1 10 = true := by decide +kernel
theorem zd18_10 : zD 18 10 (.aload_n 0) 1 11 = true := by decide +kernel
theorem zd18_11 : zDg 18 11 14 4 0 (.int) = true := by decide +kernel
theorem zd18_14 : zDc 18 14 17 (Int32.ofNat 256) = true := by decide +kernel
theorem zd18_17 : zD 18 17 .idiv 1 18 = true := by decide +kernel
theorem zd18_18 : zDk 18 18 21 8 0 = true := by decide +kernel
theorem zd18_21 : zD 18 21 (.aload_n 1) 1 22 = true := by decide +kernel
theorem zd18_22 : zD 18 22 (.aload_n 0) 1 23 = true := by decide +kernel
theorem zd18_23 : zDg 18 23 26 4 0 (.int) = true := by decide +kernel
theorem zd18_26 : zDc 18 26 29 (Int32.ofNat 256) = true := by decide +kernel
theorem zd18_29 : zD 18 29 .irem 1 30 = true := by decide +kernel
theorem zd18_30 : zDk 18 30 33 8 0 = true := by decide +kernel
theorem zd18_33 : zD 18 33 (.aload_n 1) 1 34 = true := by decide +kernel
theorem zd18_34 : zD 18 34 (.aload_n 0) 1 35 = true := by decide +kernel
theorem zd18_35 : zDg 18 35 38 4 1 (.array .int) = true := by decide +kernel
theorem zd18_38 : zDc 18 38 39 (Int32.ofNat 0) = true := by decide +kernel
theorem zd18_39 : zD 18 39 (.aload_n 0) 1 40 = true := by decide +kernel
theorem zd18_40 : zDg 18 40 43 4 2 (.int) = true := by decide +kernel
theorem zd18_43 : zDk 18 43 46 19 0 = true := by decide +kernel
theorem zd18_46 : zD 18 46 (.aload_n 1) 1 47 = true := by decide +kernel
theorem zd18_47 : zD 18 47 (.aload_n 2) 1 48 = true := by decide +kernel
theorem zd18_48 : zDk 18 48 51 7 0 = true := by decide +kernel
theorem zd18_51 : zD 18 51 .return_ 1 52 = true := by decide +kernel
theorem zd19_0 : zD 19 0 (.iload_n 2) 1 1 = true := by decide +kernel
theorem zd19_1 : zD 19 1 (.iload_n 3) 1 2 = true := by decide +kernel
theorem zd19_2 : zD 19 2 .iadd 1 3 = true := by decide +kernel
theorem zd19_3 : zD 19 3 (.aload_n 1) 1 4 = true := by decide +kernel
theorem zd19_4 : zD 19 4 .arraylength 1 5 = true := by decide +kernel
theorem zd19_5 : zDn 19 5 8 = true := by decide +kernel
theorem zd19_8 : zD 19 8 (.istore 4) 2 10 = true := by decide +kernel
theorem zd19_10 : zD 19 10 (.iload_n 2) 1 11 = true := by decide +kernel
theorem zd19_11 : zD 19 11 (.istore 5) 2 13 = true := by decide +kernel
theorem zd19_13 : zD 19 13 (.iload 5) 2 15 = true := by decide +kernel
theorem zd19_15 : zD 19 15 (.iload 4) 2 17 = true := by decide +kernel
theorem zd19_17 : zDm 19 17 .ge 34 20 = true := by decide +kernel
theorem zd19_20 : zD 19 20 (.aload_n 0) 1 21 = true := by decide +kernel
theorem zd19_21 : zD 19 21 (.aload_n 1) 1 22 = true := by decide +kernel
theorem zd19_22 : zD 19 22 (.iload 5) 2 24 = true := by decide +kernel
theorem zd19_24 : zD 19 24 .iaload 1 25 = true := by decide +kernel
theorem zd19_25 : zDk 19 25 28 8 0 = true := by decide +kernel
theorem zd19_28 : zDi 19 28 31 5 (Int32.ofNat 1) = true := by decide +kernel
theorem zd19_31 : zDj 19 31 13 = true := by decide +kernel
theorem zd19_34 : zD 19 34 .return_ 1 35 = true := by decide +kernel
theorem zd20_0 : zD 20 0 (.aload_n 0) 1 1 = true := by decide +kernel
theorem zd20_1 : zDg 20 1 4 3 1 (.array .int) = true := by decide +kernel
theorem zd20_4 : zD 20 4 (.iload_n 1) 1 5 = true := by decide +kernel
theorem zd20_5 : zD 20 5 .iaload 1 6 = true := by decide +kernel
theorem zd20_6 : zD 20 6 (.istore_n 3) 1 7 = true := by decide +kernel
theorem zd20_7 : zD 20 7 (.iload_n 3) 1 8 = true := by decide +kernel
theorem zd20_8 : zDc 20 8 9 (Int32.ofNat 2) = true := by decide +kernel
theorem zd20_9 : zD 20 9 .idiv 1 10 = true := by decide +kernel
theorem zd20_10 : zD 20 10 (.istore 4) 2 12 = true := by decide +kernel
theorem zd20_12 : zDc 20 12 13 (Int32.ofNat 0) = true := by decide +kernel
theorem zd20_13 : zD 20 13 (.istore 5) 2 15 = true := by decide +kernel
theorem zd20_15 : zD 20 15 (.iload 5) 2 17 = true := by decide +kernel
theorem zd20_17 : zD 20 17 (.iload 4) 2 19 = true := by decide +kernel
theorem zd20_19 : zDm 20 19 .ge 78 22 = true := by decide +kernel
theorem zd20_22 : zD 20 22 (.aload_n 2) 1 23 = true := by decide +kernel
theorem zd20_23 : zDk 20 23 26 6 0 = true := by decide +kernel
theorem zd20_26 : zD 20 26 (.aload_n 2) 1 27 = true := by decide +kernel
theorem zd20_27 : zDc 20 27 28 (Int32.ofNat 1) = true := by decide +kernel
theorem zd20_28 : zDk 20 28 31 8 0 = true := by decide +kernel
theorem zd20_31 : zD 20 31 (.aload_n 2) 1 32 = true := by decide +kernel
theorem zd20_32 : zD 20 32 (.aload_n 0) 1 33 = true := by decide +kernel
theorem zd20_33 : zD 20 33 (.iload_n 1) 1 34 = true := by decide +kernel
theorem zd20_34 : zDc 20 34 35 (Int32.ofNat 2) = true := by decide +kernel
theorem zd20_35 : zD 20 35 (.iload 5) 2 37 = true := by decide +kernel
theorem zd20_37 : zD 20 37 .imul 1 38 = true := by decide +kernel
theorem zd20_38 : zDk 20 38 41 17 0 = true := by decide +kernel
theorem zd20_41 : zDk 20 41 44 21 0 = true := by decide +kernel
theorem zd20_44 : zD 20 44 (.aload_n 2) 1 45 = true := by decide +kernel
theorem zd20_45 : zD 20 45 (.aload_n 0) 1 46 = true := by decide +kernel
theorem zd20_46 : zD 20 46 (.iload_n 1) 1 47 = true := by decide +kernel
theorem zd20_47 : zDc 20 47 48 (Int32.ofNat 2) = true := by decide +kernel
theorem zd20_48 : zD 20 48 (.iload 5) 2 50 = true := by decide +kernel
theorem zd20_50 : zD 20 50 .imul 1 51 = true := by decide +kernel
theorem zd20_51 : zDc 20 51 52 (Int32.ofNat 1) = true := by decide +kernel
theorem zd20_52 : zD 20 52 .iadd 1 53 = true := by decide +kernel
theorem zd20_53 : zDk 20 53 56 17 0 = true := by decide +kernel
theorem zd20_56 : zDk 20 56 59 21 0 = true := by decide +kernel
theorem zd20_59 : zD 20 59 (.aload_n 2) 1 60 = true := by decide +kernel
theorem zd20_60 : zD 20 60 (.aload_n 0) 1 61 = true := by decide +kernel
theorem zd20_61 : zD 20 61 (.iload_n 1) 1 62 = true := by decide +kernel
theorem zd20_62 : zDc 20 62 63 (Int32.ofNat 1) = true := by decide +kernel
theorem zd20_63 : zD 20 63 .iadd 1 64 = true := by decide +kernel
theorem zd20_64 : zD 20 64 (.iload 5) 2 66 = true := by decide +kernel
theorem zd20_66 : zDk 20 66 69 17 0 = true := by decide +kernel
theorem zd20_69 : zDk 20 69 72 7 0 = true := by decide +kernel
theorem zd20_72 : zDi 20 72 75 5 (Int32.ofNat 1) = true := by decide +kernel
theorem zd20_75 : zDj 20 75 15 = true := by decide +kernel
theorem zd20_78 : zD 20 78 (.iload_n 3) 1 79 = true := by decide +kernel
theorem zd20_79 : zDc 20 79 80 (Int32.ofNat 2) = true := by decide +kernel
theorem zd20_80 : zD 20 80 .irem 1 81 = true := by decide +kernel
theorem zd20_81 : zDc 20 81 82 (Int32.ofNat 1) = true := by decide +kernel
theorem zd20_82 : zDm 20 82 .ne 109 85 = true := by decide +kernel
theorem zd20_85 : zD 20 85 (.aload_n 0) 1 86 = true := by decide +kernel
theorem zd20_86 : zD 20 86 (.iload_n 1) 1 87 = true := by decide +kernel
theorem zd20_87 : zD 20 87 (.iload_n 3) 1 88 = true := by decide +kernel
theorem zd20_88 : zDc 20 88 89 (Int32.ofNat 1) = true := by decide +kernel
theorem zd20_89 : zD 20 89 .isub 1 90 = true := by decide +kernel
theorem zd20_90 : zDk 20 90 93 17 0 = true := by decide +kernel
theorem zd20_93 : zDc 20 93 94 (Int32.ofNat 0) = true := by decide +kernel
theorem zd20_94 : zD 20 94 (.aload_n 0) 1 95 = true := by decide +kernel
theorem zd20_95 : zD 20 95 (.iload_n 1) 1 96 = true := by decide +kernel
theorem zd20_96 : zDc 20 96 97 (Int32.ofNat 1) = true := by decide +kernel
theorem zd20_97 : zD 20 97 .iadd 1 98 = true := by decide +kernel
theorem zd20_98 : zD 20 98 (.iload 4) 2 100 = true := by decide +kernel
theorem zd20_100 : zDk 20 100 103 17 0 = true := by decide +kernel
theorem zd20_103 : zDc 20 103 104 (Int32.ofNat 0) = true := by decide +kernel
theorem zd20_104 : zDc 20 104 106 (Int32.ofNat 32) = true := by decide +kernel
theorem zd20_106 : zDy 20 106 109 = true := by decide +kernel
theorem zd20_109 : zD 20 109 (.aload_n 0) 1 110 = true := by decide +kernel
theorem zd20_110 : zDg 20 110 113 3 1 (.array .int) = true := by decide +kernel
theorem zd20_113 : zD 20 113 (.iload_n 1) 1 114 = true := by decide +kernel
theorem zd20_114 : zDc 20 114 115 (Int32.ofNat 1) = true := by decide +kernel
theorem zd20_115 : zD 20 115 .iadd 1 116 = true := by decide +kernel
theorem zd20_116 : zD 20 116 (.iload 4) 2 118 = true := by decide +kernel
theorem zd20_118 : zD 20 118 (.iload_n 3) 1 119 = true := by decide +kernel
theorem zd20_119 : zDc 20 119 120 (Int32.ofNat 2) = true := by decide +kernel
theorem zd20_120 : zD 20 120 .irem 1 121 = true := by decide +kernel
theorem zd20_121 : zD 20 121 .iadd 1 122 = true := by decide +kernel
theorem zd20_122 : zD 20 122 .iastore 1 123 = true := by decide +kernel
theorem zd20_123 : zD 20 123 .return_ 1 124 = true := by decide +kernel
theorem zd21_0 : zD 21 0 (.aload_n 1) 1 1 = true := by decide +kernel
theorem zd21_1 : zD 21 1 (.astore_n 2) 1 2 = true := by decide +kernel
theorem zd21_2 : zD 21 2 (.aload_n 2) 1 3 = true := by decide +kernel
theorem zd21_3 : zD 21 3 .arraylength 1 4 = true := by decide +kernel
theorem zd21_4 : zD 21 4 (.istore_n 3) 1 5 = true := by decide +kernel
theorem zd21_5 : zDc 21 5 6 (Int32.ofNat 0) = true := by decide +kernel
theorem zd21_6 : zD 21 6 (.istore 4) 2 8 = true := by decide +kernel
theorem zd21_8 : zD 21 8 (.iload 4) 2 10 = true := by decide +kernel
theorem zd21_10 : zD 21 10 (.iload_n 3) 1 11 = true := by decide +kernel
theorem zd21_11 : zDm 21 11 .ge 32 14 = true := by decide +kernel
theorem zd21_14 : zD 21 14 (.aload_n 2) 1 15 = true := by decide +kernel
theorem zd21_15 : zD 21 15 (.iload 4) 2 17 = true := by decide +kernel
theorem zd21_17 : zD 21 17 .iaload 1 18 = true := by decide +kernel
theorem zd21_18 : zD 21 18 (.istore 5) 2 20 = true := by decide +kernel
theorem zd21_20 : zD 21 20 (.aload_n 0) 1 21 = true := by decide +kernel
theorem zd21_21 : zD 21 21 (.iload 5) 2 23 = true := by decide +kernel
theorem zd21_23 : zDk 21 23 26 8 0 = true := by decide +kernel
theorem zd21_26 : zDi 21 26 29 4 (Int32.ofNat 1) = true := by decide +kernel
theorem zd21_29 : zDj 21 29 8 = true := by decide +kernel
theorem zd21_32 : zD 21 32 .return_ 1 33 = true := by decide +kernel
theorem zd22_0 : zD 22 0 (.aload_n 0) 1 1 = true := by decide +kernel
theorem zd22_1 : zD 22 1 (.aload_n 0) 1 2 = true := by decide +kernel
theorem zd22_2 : zDg 22 2 5 3 2 (.int) = true := by decide +kernel
theorem zd22_5 : zDc 22 5 6 (Int32.ofNat 0) = true := by decide +kernel
theorem zd22_6 : zDk 22 6 9 17 0 = true := by decide +kernel
theorem zd22_9 : zD 22 9 .areturn 1 10 = true := by decide +kernel
theorem zd23_0 : zD 23 0 (.iload_n 1) 1 1 = true := by decide +kernel
theorem zd23_1 : zDk 23 1 4 24 2 = true := by decide +kernel
theorem zd23_4 : zDf 23 4 .eq 22 7 = true := by decide +kernel
theorem zd23_7 : zD 23 7 (.aload_n 0) 1 8 = true := by decide +kernel
theorem zd23_8 : zDg 23 8 11 0 8 (.object "ReleaseLeaves$Claim") = true := by decide +kernel
theorem zd23_11 : zD 23 11 (.iload_n 1) 1 12 = true := by decide +kernel
theorem zd23_12 : zDk 23 12 15 25 0 = true := by decide +kernel
theorem zd23_15 : zDf 23 15 .eq 22 18 = true := by decide +kernel
theorem zd23_18 : zDc 23 18 19 (Int32.ofNat 1) = true := by decide +kernel
theorem zd23_19 : zDj 23 19 23 = true := by decide +kernel
theorem zd23_22 : zDc 23 22 23 (Int32.ofNat 0) = true := by decide +kernel
theorem zd23_23 : zD 23 23 .ireturn 1 24 = true := by decide +kernel
theorem zd24_0 : zD 24 0 (.iload_n 0) 1 1 = true := by decide +kernel
theorem zd24_1 : zDf 24 1 .lt 15 4 = true := by decide +kernel
theorem zd24_4 : zD 24 4 (.iload_n 0) 1 5 = true := by decide +kernel
theorem zd24_5 : zDc 24 5 8 (Int32.ofNat 255) = true := by decide +kernel
theorem zd24_8 : zDm 24 8 .gt 15 11 = true := by decide +kernel
theorem zd24_11 : zDc 24 11 12 (Int32.ofNat 1) = true := by decide +kernel
theorem zd24_12 : zDj 24 12 16 = true := by decide +kernel
theorem zd24_15 : zDc 24 15 16 (Int32.ofNat 0) = true := by decide +kernel
theorem zd24_16 : zD 24 16 .ireturn 1 17 = true := by decide +kernel
theorem zd25_0 : zD 25 0 (.aload_n 0) 1 1 = true := by decide +kernel
theorem zd25_1 : zDg 25 1 4 6 1 (.int) = true := by decide +kernel
theorem zd25_4 : zDc 25 4 7 (Int32.ofNat 300) = true := by decide +kernel
theorem zd25_7 : zDm 25 7 .lt 12 10 = true := by decide +kernel
theorem zd25_10 : zDc 25 10 11 (Int32.ofNat 0) = true := by decide +kernel
theorem zd25_11 : zD 25 11 .ireturn 1 12 = true := by decide +kernel
theorem zd25_12 : zD 25 12 (.aload_n 0) 1 13 = true := by decide +kernel
theorem zd25_13 : zDg 25 13 16 6 0 (.array .int) = true := by decide +kernel
theorem zd25_16 : zD 25 16 (.aload_n 0) 1 17 = true := by decide +kernel
theorem zd25_17 : zDg 25 17 20 6 1 (.int) = true := by decide +kernel
theorem zd25_20 : zD 25 20 (.iload_n 1) 1 21 = true := by decide +kernel
theorem zd25_21 : zD 25 21 .iastore 1 22 = true := by decide +kernel
theorem zd25_22 : zD 25 22 (.aload_n 0) 1 23 = true := by decide +kernel
theorem zd25_23 : zD 25 23 .dup 1 24 = true := by decide +kernel
theorem zd25_24 : zDg 25 24 27 6 1 (.int) = true := by decide +kernel
theorem zd25_27 : zDc 25 27 28 (Int32.ofNat 1) = true := by decide +kernel
theorem zd25_28 : zD 25 28 .iadd 1 29 = true := by decide +kernel
theorem zd25_29 : zDp 25 29 32 6 1 (.int) = true := by decide +kernel
theorem zd25_32 : zDc 25 32 33 (Int32.ofNat 1) = true := by decide +kernel
theorem zd25_33 : zD 25 33 .ireturn 1 34 = true := by decide +kernel
theorem zd26_0 : zD 26 0 (.aload_n 0) 1 1 = true := by decide +kernel
theorem zd26_1 : zDg 26 1 4 0 8 (.object "ReleaseLeaves$Claim") = true := by decide +kernel
theorem zd26_4 : zDk 26 4 7 27 0 = true := by decide +kernel
theorem zd26_7 : zDf 26 7 .eq 24 10 = true := by decide +kernel
theorem zd26_10 : zD 26 10 (.aload_n 0) 1 11 = true := by decide +kernel
theorem zd26_11 : zDg 26 11 14 0 8 (.object "ReleaseLeaves$Claim") = true := by decide +kernel
theorem zd26_14 : zDk 26 14 17 31 0 = true := by decide +kernel
theorem zd26_17 : zD 26 17 (.aload_n 0) 1 18 = true := by decide +kernel
theorem zd26_18 : zDg 26 18 21 0 2 (.int) = true := by decide +kernel
theorem zd26_21 : zDm 26 21 .lt 26 24 = true := by decide +kernel
theorem zd26_24 : zDc 26 24 25 (Int32.ofNat 0) = true := by decide +kernel
theorem zd26_25 : zD 26 25 .ireturn 1 26 = true := by decide +kernel
theorem zd26_26 : zD 26 26 (.aload_n 0) 1 27 = true := by decide +kernel
theorem zd26_27 : zDg 26 27 30 0 8 (.object "ReleaseLeaves$Claim") = true := by decide +kernel
theorem zd26_30 : zD 26 30 (.aload_n 0) 1 31 = true := by decide +kernel
theorem zd26_31 : zDg 26 31 34 0 0 (.object "ReleaseLeaves$Digester") = true := by decide +kernel
theorem zd26_34 : zD 26 34 (.aload_n 0) 1 35 = true := by decide +kernel
theorem zd26_35 : zDg 26 35 38 0 9 (.array .int) = true := by decide +kernel
theorem zd26_38 : zDk 26 38 41 32 0 = true := by decide +kernel
theorem zd26_41 : zD 26 41 (.aload_n 0) 1 42 = true := by decide +kernel
theorem zd26_42 : zDg 26 42 45 0 9 (.array .int) = true := by decide +kernel
theorem zd26_45 : zD 26 45 (.aload_n 0) 1 46 = true := by decide +kernel
theorem zd26_46 : zDg 26 46 49 0 1 (.array (.object "ReleaseLeaves$Release")) = true := by decide +kernel
theorem zd26_49 : zD 26 49 (.aload_n 0) 1 50 = true := by decide +kernel
theorem zd26_50 : zDg 26 50 53 0 8 (.object "ReleaseLeaves$Claim") = true := by decide +kernel
theorem zd26_53 : zDk 26 53 56 31 0 = true := by decide +kernel
theorem zd26_56 : zD 26 56 .aaload 1 57 = true := by decide +kernel
theorem zd26_57 : zDg 26 57 60 2 2 (.object "ReleaseLeaves$Tree") = true := by decide +kernel
theorem zd26_60 : zDk 26 60 63 22 0 = true := by decide +kernel
theorem zd26_63 : zDc 26 63 65 (Int32.ofNat 32) = true := by decide +kernel
theorem zd26_65 : zDk 26 65 68 34 2 = true := by decide +kernel
theorem zd26_68 : zDf 26 68 .eq 75 71 = true := by decide +kernel
theorem zd26_71 : zDc 26 71 72 (Int32.ofNat 1) = true := by decide +kernel
theorem zd26_72 : zDj 26 72 76 = true := by decide +kernel
theorem zd26_75 : zDc 26 75 76 (Int32.ofNat 0) = true := by decide +kernel
theorem zd26_76 : zD 26 76 .ireturn 1 77 = true := by decide +kernel
theorem zd27_0 : zD 27 0 (.aload_n 0) 1 1 = true := by decide +kernel
theorem zd27_1 : zDc 27 1 2 (Int32.ofNat 3) = true := by decide +kernel
theorem zd27_2 : zDk 27 2 5 28 0 = true := by decide +kernel
theorem zd27_5 : zDf 27 5 .eq 30 8 = true := by decide +kernel
theorem zd27_8 : zD 27 8 (.aload_n 0) 1 9 = true := by decide +kernel
theorem zd27_9 : zDg 27 9 12 6 0 (.array .int) = true := by decide +kernel
theorem zd27_12 : zDc 27 12 13 (Int32.ofNat 3) = true := by decide +kernel
theorem zd27_13 : zD 27 13 .iaload 1 14 = true := by decide +kernel
theorem zd27_14 : zDc 27 14 16 (Int32.ofNat 64) = true := by decide +kernel
theorem zd27_16 : zDm 27 16 .gt 30 19 = true := by decide +kernel
theorem zd27_19 : zD 27 19 (.aload_n 0) 1 20 = true := by decide +kernel
theorem zd27_20 : zD 27 20 (.aload_n 0) 1 21 = true := by decide +kernel
theorem zd27_21 : zDk 27 21 24 29 0 = true := by decide +kernel
theorem zd27_24 : zDk 27 24 27 28 0 = true := by decide +kernel
theorem zd27_27 : zDf 27 27 .ne 32 30 = true := by decide +kernel
theorem zd27_30 : zDc 27 30 31 (Int32.ofNat 0) = true := by decide +kernel
theorem zd27_31 : zD 27 31 .ireturn 1 32 = true := by decide +kernel
theorem zd27_32 : zD 27 32 (.aload_n 0) 1 33 = true := by decide +kernel
theorem zd27_33 : zDg 27 33 36 6 0 (.array .int) = true := by decide +kernel
theorem zd27_36 : zD 27 36 (.aload_n 0) 1 37 = true := by decide +kernel
theorem zd27_37 : zDk 27 37 40 29 0 = true := by decide +kernel
theorem zd27_40 : zD 27 40 .iaload 1 41 = true := by decide +kernel
theorem zd27_41 : zD 27 41 (.istore_n 1) 1 42 = true := by decide +kernel
theorem zd27_42 : zD 27 42 (.aload_n 0) 1 43 = true := by decide +kernel
theorem zd27_43 : zDg 27 43 46 6 1 (.int) = true := by decide +kernel
theorem zd27_46 : zD 27 46 (.aload_n 0) 1 47 = true := by decide +kernel
theorem zd27_47 : zD 27 47 (.iload_n 1) 1 48 = true := by decide +kernel
theorem zd27_48 : zDk 27 48 51 30 0 = true := by decide +kernel
theorem zd27_51 : zDm 27 51 .eq 56 54 = true := by decide +kernel
theorem zd27_54 : zDc 27 54 55 (Int32.ofNat 0) = true := by decide +kernel
theorem zd27_55 : zD 27 55 .ireturn 1 56 = true := by decide +kernel
theorem zd27_56 : zDc 27 56 57 (Int32.ofNat 0) = true := by decide +kernel
theorem zd27_57 : zD 27 57 (.istore_n 2) 1 58 = true := by decide +kernel
theorem zd27_58 : zD 27 58 (.iload_n 2) 1 59 = true := by decide +kernel
theorem zd27_59 : zD 27 59 (.iload_n 1) 1 60 = true := by decide +kernel
theorem zd27_60 : zDm 27 60 .ge 85 63 = true := by decide +kernel
theorem zd27_63 : zD 27 63 (.aload_n 0) 1 64 = true := by decide +kernel
theorem zd27_64 : zDg 27 64 67 6 0 (.array .int) = true := by decide +kernel
theorem zd27_67 : zD 27 67 (.aload_n 0) 1 68 = true := by decide +kernel
theorem zd27_68 : zD 27 68 (.iload_n 2) 1 69 = true := by decide +kernel
theorem zd27_69 : zDk 27 69 72 30 0 = true := by decide +kernel
theorem zd27_72 : zD 27 72 .iaload 1 73 = true := by decide +kernel
theorem zd27_73 : zDc 27 73 74 (Int32.ofNat 1) = true := by decide +kernel
theorem zd27_74 : zDm 27 74 .le 79 77 = true := by decide +kernel
theorem zd27_77 : zDc 27 77 78 (Int32.ofNat 0) = true := by decide +kernel
theorem zd27_78 : zD 27 78 .ireturn 1 79 = true := by decide +kernel
theorem zd27_79 : zDi 27 79 82 2 (Int32.ofNat 1) = true := by decide +kernel
theorem zd27_82 : zDj 27 82 58 = true := by decide +kernel
theorem zd27_85 : zDc 27 85 86 (Int32.ofNat 1) = true := by decide +kernel
theorem zd27_86 : zD 27 86 .ireturn 1 87 = true := by decide +kernel
theorem zd28_0 : zD 28 0 (.iload_n 1) 1 1 = true := by decide +kernel
theorem zd28_1 : zDf 28 1 .lt 16 4 = true := by decide +kernel
theorem zd28_4 : zD 28 4 (.iload_n 1) 1 5 = true := by decide +kernel
theorem zd28_5 : zD 28 5 (.aload_n 0) 1 6 = true := by decide +kernel
theorem zd28_6 : zDg 28 6 9 6 1 (.int) = true := by decide +kernel
theorem zd28_9 : zDm 28 9 .ge 16 12 = true := by decide +kernel
theorem zd28_12 : zDc 28 12 13 (Int32.ofNat 1) = true := by decide +kernel
theorem zd28_13 : zDj 28 13 17 = true := by decide +kernel
theorem zd28_16 : zDc 28 16 17 (Int32.ofNat 0) = true := by decide +kernel
theorem zd28_17 : zD 28 17 .ireturn 1 18 = true := by decide +kernel
theorem zd29_0 : zDc 29 0 1 (Int32.ofNat 4) = true := by decide +kernel
theorem zd29_1 : zD 29 1 (.aload_n 0) 1 2 = true := by decide +kernel
theorem zd29_2 : zDg 29 2 5 6 0 (.array .int) = true := by decide +kernel
theorem zd29_5 : zDc 29 5 6 (Int32.ofNat 3) = true := by decide +kernel
theorem zd29_6 : zD 29 6 .iaload 1 7 = true := by decide +kernel
theorem zd29_7 : zD 29 7 .iadd 1 8 = true := by decide +kernel
theorem zd29_8 : zD 29 8 .ireturn 1 9 = true := by decide +kernel
theorem zd30_0 : zD 30 0 (.aload_n 0) 1 1 = true := by decide +kernel
theorem zd30_1 : zDk 30 1 4 29 0 = true := by decide +kernel
theorem zd30_4 : zDc 30 4 5 (Int32.ofNat 1) = true := by decide +kernel
theorem zd30_5 : zD 30 5 .iadd 1 6 = true := by decide +kernel
theorem zd30_6 : zD 30 6 (.iload_n 1) 1 7 = true := by decide +kernel
theorem zd30_7 : zDc 30 7 9 (Int32.ofNat 33) = true := by decide +kernel
theorem zd30_9 : zD 30 9 .imul 1 10 = true := by decide +kernel
theorem zd30_10 : zD 30 10 .iadd 1 11 = true := by decide +kernel
theorem zd30_11 : zD 30 11 .ireturn 1 12 = true := by decide +kernel
theorem zd31_0 : zD 31 0 (.aload_n 0) 1 1 = true := by decide +kernel
theorem zd31_1 : zDg 31 1 4 6 0 (.array .int) = true := by decide +kernel
theorem zd31_4 : zDc 31 4 5 (Int32.ofNat 0) = true := by decide +kernel
theorem zd31_5 : zD 31 5 .iaload 1 6 = true := by decide +kernel
theorem zd31_6 : zD 31 6 .ireturn 1 7 = true := by decide +kernel
theorem zd32_0 : zD 32 0 (.aload_n 1) 1 1 = true := by decide +kernel
theorem zd32_1 : zDk 32 1 4 6 0 = true := by decide +kernel
theorem zd32_4 : zD 32 4 (.aload_n 1) 1 5 = true := by decide +kernel
theorem zd32_5 : zDc 32 5 6 (Int32.ofNat 0) = true := by decide +kernel
theorem zd32_6 : zDk 32 6 9 8 0 = true := by decide +kernel
theorem zd32_9 : zD 32 9 (.aload_n 1) 1 10 = true := by decide +kernel
theorem zd32_10 : zD 32 10 (.aload_n 0) 1 11 = true := by decide +kernel
theorem zd32_11 : zDg 32 11 14 6 0 (.array .int) = true := by decide +kernel
theorem zd32_14 : zDc 32 14 15 (Int32.ofNat 1) = true := by decide +kernel
theorem zd32_15 : zDc 32 15 16 (Int32.ofNat 2) = true := by decide +kernel
theorem zd32_16 : zDk 32 16 19 19 0 = true := by decide +kernel
theorem zd32_19 : zD 32 19 (.aload_n 1) 1 20 = true := by decide +kernel
theorem zd32_20 : zD 32 20 (.aload_n 0) 1 21 = true := by decide +kernel
theorem zd32_21 : zDg 32 21 24 6 0 (.array .int) = true := by decide +kernel
theorem zd32_24 : zDc 32 24 25 (Int32.ofNat 4) = true := by decide +kernel
theorem zd32_25 : zD 32 25 (.aload_n 0) 1 26 = true := by decide +kernel
theorem zd32_26 : zDg 32 26 29 6 0 (.array .int) = true := by decide +kernel
theorem zd32_29 : zDc 32 29 30 (Int32.ofNat 3) = true := by decide +kernel
theorem zd32_30 : zD 32 30 .iaload 1 31 = true := by decide +kernel
theorem zd32_31 : zDk 32 31 34 19 0 = true := by decide +kernel
theorem zd32_34 : zD 32 34 (.aload_n 1) 1 35 = true := by decide +kernel
theorem zd32_35 : zD 32 35 (.aload_n 2) 1 36 = true := by decide +kernel
theorem zd32_36 : zDk 32 36 39 7 0 = true := by decide +kernel
theorem zd32_39 : zD 32 39 (.aload_n 0) 1 40 = true := by decide +kernel
theorem zd32_40 : zDg 32 40 43 6 0 (.array .int) = true := by decide +kernel
theorem zd32_43 : zD 32 43 (.aload_n 0) 1 44 = true := by decide +kernel
theorem zd32_44 : zDk 32 44 47 29 0 = true := by decide +kernel
theorem zd32_47 : zD 32 47 .iaload 1 48 = true := by decide +kernel
theorem zd32_48 : zD 32 48 (.istore_n 3) 1 49 = true := by decide +kernel
theorem zd32_49 : zDc 32 49 50 (Int32.ofNat 0) = true := by decide +kernel
theorem zd32_50 : zD 32 50 (.istore 4) 2 52 = true := by decide +kernel
theorem zd32_52 : zD 32 52 (.iload 4) 2 54 = true := by decide +kernel
theorem zd32_54 : zD 32 54 (.iload_n 3) 1 55 = true := by decide +kernel
theorem zd32_55 : zDm 32 55 .ge 76 58 = true := by decide +kernel
theorem zd32_58 : zD 32 58 (.aload_n 0) 1 59 = true := by decide +kernel
theorem zd32_59 : zD 32 59 (.aload_n 0) 1 60 = true := by decide +kernel
theorem zd32_60 : zD 32 60 (.iload 4) 2 62 = true := by decide +kernel
theorem zd32_62 : zDk 32 62 65 30 0 = true := by decide +kernel
theorem zd32_65 : zD 32 65 (.aload_n 1) 1 66 = true := by decide +kernel
theorem zd32_66 : zD 32 66 (.aload_n 2) 1 67 = true := by decide +kernel
theorem zd32_67 : zDk 32 67 70 33 0 = true := by decide +kernel
theorem zd32_70 : zDi 32 70 73 4 (Int32.ofNat 1) = true := by decide +kernel
theorem zd32_73 : zDj 32 73 52 = true := by decide +kernel
theorem zd32_76 : zD 32 76 .return_ 1 77 = true := by decide +kernel
theorem zd33_0 : zD 33 0 (.aload_n 2) 1 1 = true := by decide +kernel
theorem zd33_1 : zDk 33 1 4 6 0 = true := by decide +kernel
theorem zd33_4 : zD 33 4 (.aload_n 2) 1 5 = true := by decide +kernel
theorem zd33_5 : zDc 33 5 6 (Int32.ofNat 1) = true := by decide +kernel
theorem zd33_6 : zDk 33 6 9 8 0 = true := by decide +kernel
theorem zd33_9 : zD 33 9 (.aload_n 0) 1 10 = true := by decide +kernel
theorem zd33_10 : zDg 33 10 13 6 0 (.array .int) = true := by decide +kernel
theorem zd33_13 : zD 33 13 (.iload_n 1) 1 14 = true := by decide +kernel
theorem zd33_14 : zD 33 14 .iaload 1 15 = true := by decide +kernel
theorem zd33_15 : zDf 33 15 .ne 39 18 = true := by decide +kernel
theorem zd33_18 : zD 33 18 (.aload_n 2) 1 19 = true := by decide +kernel
theorem zd33_19 : zD 33 19 (.aload_n 0) 1 20 = true := by decide +kernel
theorem zd33_20 : zDg 33 20 23 6 0 (.array .int) = true := by decide +kernel
theorem zd33_23 : zD 33 23 (.iload_n 1) 1 24 = true := by decide +kernel
theorem zd33_24 : zDc 33 24 25 (Int32.ofNat 1) = true := by decide +kernel
theorem zd33_25 : zD 33 25 .iadd 1 26 = true := by decide +kernel
theorem zd33_26 : zDc 33 26 28 (Int32.ofNat 32) = true := by decide +kernel
theorem zd33_28 : zDk 33 28 31 19 0 = true := by decide +kernel
theorem zd33_31 : zD 33 31 (.aload_n 2) 1 32 = true := by decide +kernel
theorem zd33_32 : zD 33 32 (.aload_n 3) 1 33 = true := by decide +kernel
theorem zd33_33 : zDk 33 33 36 21 0 = true := by decide +kernel
theorem zd33_36 : zDj 33 36 57 = true := by decide +kernel
theorem zd33_39 : zD 33 39 (.aload_n 2) 1 40 = true := by decide +kernel
theorem zd33_40 : zD 33 40 (.aload_n 3) 1 41 = true := by decide +kernel
theorem zd33_41 : zDk 33 41 44 21 0 = true := by decide +kernel
theorem zd33_44 : zD 33 44 (.aload_n 2) 1 45 = true := by decide +kernel
theorem zd33_45 : zD 33 45 (.aload_n 0) 1 46 = true := by decide +kernel
theorem zd33_46 : zDg 33 46 49 6 0 (.array .int) = true := by decide +kernel
theorem zd33_49 : zD 33 49 (.iload_n 1) 1 50 = true := by decide +kernel
theorem zd33_50 : zDc 33 50 51 (Int32.ofNat 1) = true := by decide +kernel
theorem zd33_51 : zD 33 51 .iadd 1 52 = true := by decide +kernel
theorem zd33_52 : zDc 33 52 54 (Int32.ofNat 32) = true := by decide +kernel
theorem zd33_54 : zDk 33 54 57 19 0 = true := by decide +kernel
theorem zd33_57 : zD 33 57 (.aload_n 2) 1 58 = true := by decide +kernel
theorem zd33_58 : zD 33 58 (.aload_n 3) 1 59 = true := by decide +kernel
theorem zd33_59 : zDk 33 59 62 7 0 = true := by decide +kernel
theorem zd33_62 : zD 33 62 .return_ 1 63 = true := by decide +kernel
theorem zd34_0 : zD 34 0 (.iload_n 2) 1 1 = true := by decide +kernel
theorem zd34_1 : zD 34 1 (.aload_n 0) 1 2 = true := by decide +kernel
theorem zd34_2 : zD 34 2 .arraylength 1 3 = true := by decide +kernel
theorem zd34_3 : zDm 34 3 .gt 12 6 = true := by decide +kernel
theorem zd34_6 : zD 34 6 (.iload_n 2) 1 7 = true := by decide +kernel
theorem zd34_7 : zD 34 7 (.aload_n 1) 1 8 = true := by decide +kernel
theorem zd34_8 : zD 34 8 .arraylength 1 9 = true := by decide +kernel
theorem zd34_9 : zDm 34 9 .le 14 12 = true := by decide +kernel
theorem zd34_12 : zDc 34 12 13 (Int32.ofNat 0) = true := by decide +kernel
theorem zd34_13 : zD 34 13 .ireturn 1 14 = true := by decide +kernel
theorem zd34_14 : zDc 34 14 15 (Int32.ofNat 0) = true := by decide +kernel
theorem zd34_15 : zD 34 15 (.istore_n 3) 1 16 = true := by decide +kernel
theorem zd34_16 : zD 34 16 (.iload_n 3) 1 17 = true := by decide +kernel
theorem zd34_17 : zD 34 17 (.iload_n 2) 1 18 = true := by decide +kernel
theorem zd34_18 : zDm 34 18 .ge 38 21 = true := by decide +kernel
theorem zd34_21 : zD 34 21 (.aload_n 0) 1 22 = true := by decide +kernel
theorem zd34_22 : zD 34 22 (.iload_n 3) 1 23 = true := by decide +kernel
theorem zd34_23 : zD 34 23 .iaload 1 24 = true := by decide +kernel
theorem zd34_24 : zD 34 24 (.aload_n 1) 1 25 = true := by decide +kernel
theorem zd34_25 : zD 34 25 (.iload_n 3) 1 26 = true := by decide +kernel
theorem zd34_26 : zD 34 26 .iaload 1 27 = true := by decide +kernel
theorem zd34_27 : zDm 34 27 .eq 32 30 = true := by decide +kernel
theorem zd34_30 : zDc 34 30 31 (Int32.ofNat 0) = true := by decide +kernel
theorem zd34_31 : zD 34 31 .ireturn 1 32 = true := by decide +kernel
theorem zd34_32 : zDi 34 32 35 3 (Int32.ofNat 1) = true := by decide +kernel
theorem zd34_35 : zDj 34 35 16 = true := by decide +kernel
theorem zd34_38 : zDc 34 38 39 (Int32.ofNat 1) = true := by decide +kernel
theorem zd34_39 : zD 34 39 .ireturn 1 40 = true := by decide +kernel
theorem zd35_0 : zD 35 0 (.aload_n 0) 1 1 = true := by decide +kernel
theorem zd35_1 : zDg 35 1 4 0 2 (.int) = true := by decide +kernel
theorem zd35_4 : zD 35 4 .ireturn 1 5 = true := by decide +kernel
theorem zd36_0 : zD 36 0 (.aload_n 0) 1 1 = true := by decide +kernel
theorem zd36_1 : zDg 36 1 4 0 8 (.object "ReleaseLeaves$Claim") = true := by decide +kernel
theorem zd36_4 : zDk 36 4 7 37 0 = true := by decide +kernel
theorem zd36_7 : zD 36 7 .return_ 1 8 = true := by decide +kernel
theorem zd37_0 : zD 37 0 (.aload_n 0) 1 1 = true := by decide +kernel
theorem zd37_1 : zDc 37 1 2 (Int32.ofNat 0) = true := by decide +kernel
theorem zd37_2 : zDp 37 2 5 6 1 (.int) = true := by decide +kernel
theorem zd37_5 : zD 37 5 .return_ 1 6 = true := by decide +kernel
theorem zd39_0 : zD 39 0 (.iload_n 1) 1 1 = true := by decide +kernel
theorem zd39_1 : zDf 39 1 .lt 10 4 = true := by decide +kernel
theorem zd39_4 : zD 39 4 (.iload_n 1) 1 5 = true := by decide +kernel
theorem zd39_5 : zDc 39 5 7 (Int32.ofNat 65535) = true := by decide +kernel
theorem zd39_7 : zDm 39 7 .le 20 10 = true := by decide +kernel
theorem zd39_10 : zDx 39 10 0 = true := by decide +kernel
theorem zd39_13 : zD 39 13 .dup 1 14 = true := by decide +kernel
theorem zd39_20 : zD 39 20 (.aload_n 0) 1 21 = true := by decide +kernel
theorem zd39_21 : zDg 39 21 24 0 1 (.array (.object "ReleaseLeaves$Release")) = true := by decide +kernel
theorem zd39_24 : zD 39 24 (.aload_n 0) 1 25 = true := by decide +kernel
theorem zd39_25 : zDg 39 25 28 0 2 (.int) = true := by decide +kernel
theorem zd39_28 : zD 39 28 .aaload 1 29 = true := by decide +kernel
theorem zd39_29 : zD 39 29 (.iload_n 1) 1 30 = true := by decide +kernel
theorem zd39_30 : zDk 39 30 33 40 0 = true := by decide +kernel
theorem zd39_33 : zD 39 33 .ireturn 1 34 = true := by decide +kernel
theorem zd40_0 : zD 40 0 (.aload_n 0) 1 1 = true := by decide +kernel
theorem zd40_1 : zDg 40 1 4 2 1 (.int) = true := by decide +kernel
theorem zd40_4 : zDc 40 4 6 (Int32.ofNat 8) = true := by decide +kernel
theorem zd40_6 : zDm 40 6 .ge 18 9 = true := by decide +kernel
theorem zd40_9 : zD 40 9 (.aload_n 0) 1 10 = true := by decide +kernel
theorem zd40_10 : zD 40 10 (.iload_n 1) 1 11 = true := by decide +kernel
theorem zd40_11 : zDk 40 11 14 41 0 = true := by decide +kernel
theorem zd40_14 : zDc 40 14 15 (-1) = true := by decide +kernel
theorem zd40_15 : zDm 40 15 .eq 20 18 = true := by decide +kernel
theorem zd40_18 : zDc 40 18 19 (-1) = true := by decide +kernel
theorem zd40_19 : zD 40 19 .ireturn 1 20 = true := by decide +kernel
theorem zd40_20 : zD 40 20 (.aload_n 0) 1 21 = true := by decide +kernel
theorem zd40_21 : zDg 40 21 24 2 1 (.int) = true := by decide +kernel
theorem zd40_24 : zD 40 24 (.istore_n 2) 1 25 = true := by decide +kernel
theorem zd40_25 : zD 40 25 (.aload_n 0) 1 26 = true := by decide +kernel
theorem zd40_26 : zDg 40 26 29 2 0 (.array (.object "ReleaseLeaves$StoredFile")) = true := by decide +kernel
theorem zd40_29 : zD 40 29 (.iload_n 2) 1 30 = true := by decide +kernel
theorem zd40_30 : zD 40 30 .aaload 1 31 = true := by decide +kernel
theorem zd40_31 : zD 40 31 (.iload_n 1) 1 32 = true := by decide +kernel
theorem zd40_32 : zDp 40 32 35 4 0 (.int) = true := by decide +kernel
theorem zd40_35 : zD 40 35 (.aload_n 0) 1 36 = true := by decide +kernel
theorem zd40_36 : zD 40 36 (.iload_n 2) 1 37 = true := by decide +kernel
theorem zd40_37 : zDc 40 37 38 (Int32.ofNat 1) = true := by decide +kernel
theorem zd40_38 : zD 40 38 .iadd 1 39 = true := by decide +kernel
theorem zd40_39 : zDp 40 39 42 2 1 (.int) = true := by decide +kernel
theorem zd40_42 : zD 40 42 (.iload_n 2) 1 43 = true := by decide +kernel
theorem zd40_43 : zD 40 43 .ireturn 1 44 = true := by decide +kernel
theorem zd41_0 : zDc 41 0 1 (Int32.ofNat 0) = true := by decide +kernel
theorem zd41_1 : zD 41 1 (.istore_n 2) 1 2 = true := by decide +kernel
theorem zd41_2 : zD 41 2 (.iload_n 2) 1 3 = true := by decide +kernel
theorem zd41_3 : zD 41 3 (.aload_n 0) 1 4 = true := by decide +kernel
theorem zd41_4 : zDg 41 4 7 2 1 (.int) = true := by decide +kernel
theorem zd41_7 : zDm 41 7 .ge 31 10 = true := by decide +kernel
theorem zd41_10 : zD 41 10 (.aload_n 0) 1 11 = true := by decide +kernel
theorem zd41_11 : zDg 41 11 14 2 0 (.array (.object "ReleaseLeaves$StoredFile")) = true := by decide +kernel
theorem zd41_14 : zD 41 14 (.iload_n 2) 1 15 = true := by decide +kernel
theorem zd41_15 : zD 41 15 .aaload 1 16 = true := by decide +kernel
theorem zd41_16 : zDg 41 16 19 4 0 (.int) = true := by decide +kernel
theorem zd41_19 : zD 41 19 (.iload_n 1) 1 20 = true := by decide +kernel
theorem zd41_20 : zDm 41 20 .ne 25 23 = true := by decide +kernel
theorem zd41_23 : zD 41 23 (.iload_n 2) 1 24 = true := by decide +kernel
theorem zd41_24 : zD 41 24 .ireturn 1 25 = true := by decide +kernel
theorem zd41_25 : zDi 41 25 28 2 (Int32.ofNat 1) = true := by decide +kernel
theorem zd41_28 : zDj 41 28 2 = true := by decide +kernel
theorem zd41_31 : zDc 41 31 32 (-1) = true := by decide +kernel
theorem zd41_32 : zD 41 32 .ireturn 1 33 = true := by decide +kernel
theorem zd43_0 : zD 43 0 (.aload_n 0) 1 1 = true := by decide +kernel
theorem zd43_1 : zDg 43 1 4 0 1 (.array (.object "ReleaseLeaves$Release")) = true := by decide +kernel
theorem zd43_4 : zD 43 4 (.aload_n 0) 1 5 = true := by decide +kernel
theorem zd43_5 : zDg 43 5 8 0 2 (.int) = true := by decide +kernel
theorem zd43_8 : zD 43 8 .aaload 1 9 = true := by decide +kernel
theorem zd43_9 : zD 43 9 (.astore_n 3) 1 10 = true := by decide +kernel
theorem zd43_10 : zD 43 10 (.aload_n 3) 1 11 = true := by decide +kernel
theorem zd43_11 : zD 43 11 (.iload_n 1) 1 12 = true := by decide +kernel
theorem zd43_12 : zDk 43 12 15 44 0 = true := by decide +kernel
theorem zd43_15 : zDf 43 15 .ne 28 18 = true := by decide +kernel
theorem zd43_18 : zDx 43 18 1 = true := by decide +kernel
theorem zd43_21 : zD 43 21 .dup 1 22 = true := by decide +kernel
theorem zd43_28 : zD 43 28 (.iload_n 2) 1 29 = true := by decide +kernel
theorem zd43_29 : zDk 43 29 32 24 2 = true := by decide +kernel
theorem zd43_32 : zDf 43 32 .ne 45 35 = true := by decide +kernel
theorem zd43_35 : zDx 43 35 0 = true := by decide +kernel
theorem zd43_38 : zD 43 38 .dup 1 39 = true := by decide +kernel
theorem zd43_45 : zD 43 45 (.aload_n 3) 1 46 = true := by decide +kernel
theorem zd43_46 : zDg 43 46 49 2 0 (.array (.object "ReleaseLeaves$StoredFile")) = true := by decide +kernel
theorem zd43_49 : zD 43 49 (.iload_n 1) 1 50 = true := by decide +kernel
theorem zd43_50 : zD 43 50 .aaload 1 51 = true := by decide +kernel
theorem zd43_51 : zD 43 51 (.iload_n 2) 1 52 = true := by decide +kernel
theorem zd43_52 : zDk 43 52 55 45 0 = true := by decide +kernel
theorem zd43_55 : zD 43 55 .ireturn 1 56 = true := by decide +kernel
theorem zd44_0 : zD 44 0 (.iload_n 1) 1 1 = true := by decide +kernel
theorem zd44_1 : zDf 44 1 .lt 16 4 = true := by decide +kernel
theorem zd44_4 : zD 44 4 (.iload_n 1) 1 5 = true := by decide +kernel
theorem zd44_5 : zD 44 5 (.aload_n 0) 1 6 = true := by decide +kernel
theorem zd44_6 : zDg 44 6 9 2 1 (.int) = true := by decide +kernel
theorem zd44_9 : zDm 44 9 .ge 16 12 = true := by decide +kernel
theorem zd44_12 : zDc 44 12 13 (Int32.ofNat 1) = true := by decide +kernel
theorem zd44_13 : zDj 44 13 17 = true := by decide +kernel
theorem zd44_16 : zDc 44 16 17 (Int32.ofNat 0) = true := by decide +kernel
theorem zd44_17 : zD 44 17 .ireturn 1 18 = true := by decide +kernel
theorem zd45_0 : zD 45 0 (.aload_n 0) 1 1 = true := by decide +kernel
theorem zd45_1 : zDg 45 1 4 4 2 (.int) = true := by decide +kernel
theorem zd45_4 : zDc 45 4 6 (Int32.ofNat 64) = true := by decide +kernel
theorem zd45_6 : zDm 45 6 .lt 11 9 = true := by decide +kernel
theorem zd45_9 : zDc 45 9 10 (Int32.ofNat 0) = true := by decide +kernel
theorem zd45_10 : zD 45 10 .ireturn 1 11 = true := by decide +kernel
theorem zd45_11 : zD 45 11 (.aload_n 0) 1 12 = true := by decide +kernel
theorem zd45_12 : zDg 45 12 15 4 1 (.array .int) = true := by decide +kernel
theorem zd45_15 : zD 45 15 (.aload_n 0) 1 16 = true := by decide +kernel
theorem zd45_16 : zDg 45 16 19 4 2 (.int) = true := by decide +kernel
theorem zd45_19 : zD 45 19 (.iload_n 1) 1 20 = true := by decide +kernel
theorem zd45_20 : zD 45 20 .iastore 1 21 = true := by decide +kernel
theorem zd45_21 : zD 45 21 (.aload_n 0) 1 22 = true := by decide +kernel
theorem zd45_22 : zD 45 22 .dup 1 23 = true := by decide +kernel
theorem zd45_23 : zDg 45 23 26 4 2 (.int) = true := by decide +kernel
theorem zd45_26 : zDc 45 26 27 (Int32.ofNat 1) = true := by decide +kernel
theorem zd45_27 : zD 45 27 .iadd 1 28 = true := by decide +kernel
theorem zd45_28 : zDp 45 28 31 4 2 (.int) = true := by decide +kernel
theorem zd45_31 : zDc 45 31 32 (Int32.ofNat 1) = true := by decide +kernel
theorem zd45_32 : zD 45 32 .ireturn 1 33 = true := by decide +kernel
theorem zd47_0 : zD 47 0 (.aload_n 0) 1 1 = true := by decide +kernel
theorem zd47_1 : zD 47 1 (.iload_n 1) 1 2 = true := by decide +kernel
theorem zd47_2 : zDk 47 2 5 48 0 = true := by decide +kernel
theorem zd47_5 : zD 47 5 (.astore_n 3) 1 6 = true := by decide +kernel
theorem zd47_6 : zD 47 6 (.iload_n 2) 1 7 = true := by decide +kernel
theorem zd47_7 : zDk 47 7 10 49 2 = true := by decide +kernel
theorem zd47_10 : zD 47 10 (.aload_n 3) 1 11 = true := by decide +kernel
theorem zd47_11 : zDg 47 11 14 2 2 (.object "ReleaseLeaves$Tree") = true := by decide +kernel
theorem zd47_14 : zDk 47 14 17 22 0 = true := by decide +kernel
theorem zd47_17 : zD 47 17 (.iload_n 2) 1 18 = true := by decide +kernel
theorem zd47_18 : zD 47 18 .iaload 1 19 = true := by decide +kernel
theorem zd47_19 : zD 47 19 .ireturn 1 20 = true := by decide +kernel
theorem zd48_0 : zD 48 0 (.iload_n 1) 1 1 = true := by decide +kernel
theorem zd48_1 : zDf 48 1 .lt 12 4 = true := by decide +kernel
theorem zd48_4 : zD 48 4 (.iload_n 1) 1 5 = true := by decide +kernel
theorem zd48_5 : zD 48 5 (.aload_n 0) 1 6 = true := by decide +kernel
theorem zd48_6 : zDg 48 6 9 0 2 (.int) = true := by decide +kernel
theorem zd48_9 : zDm 48 9 .lt 22 12 = true := by decide +kernel
theorem zd48_12 : zDx 48 12 1 = true := by decide +kernel
theorem zd48_15 : zD 48 15 .dup 1 16 = true := by decide +kernel
theorem zd48_22 : zD 48 22 (.aload_n 0) 1 23 = true := by decide +kernel
theorem zd48_23 : zDg 48 23 26 0 1 (.array (.object "ReleaseLeaves$Release")) = true := by decide +kernel
theorem zd48_26 : zD 48 26 (.iload_n 1) 1 27 = true := by decide +kernel
theorem zd48_27 : zD 48 27 .aaload 1 28 = true := by decide +kernel
theorem zd48_28 : zD 48 28 .areturn 1 29 = true := by decide +kernel
theorem zd49_0 : zD 49 0 (.iload_n 0) 1 1 = true := by decide +kernel
theorem zd49_1 : zDf 49 1 .lt 10 4 = true := by decide +kernel
theorem zd49_4 : zD 49 4 (.iload_n 0) 1 5 = true := by decide +kernel
theorem zd49_5 : zDc 49 5 7 (Int32.ofNat 32) = true := by decide +kernel
theorem zd49_7 : zDm 49 7 .lt 20 10 = true := by decide +kernel
theorem zd49_10 : zDx 49 10 1 = true := by decide +kernel
theorem zd49_13 : zD 49 13 .dup 1 14 = true := by decide +kernel
theorem zd49_20 : zD 49 20 .return_ 1 21 = true := by decide +kernel
theorem zd51_0 : zD 51 0 (.aload_n 0) 1 1 = true := by decide +kernel
theorem zd51_1 : zD 51 1 (.iload_n 1) 1 2 = true := by decide +kernel
theorem zd51_2 : zD 51 2 (.iload_n 2) 1 3 = true := by decide +kernel
theorem zd51_3 : zDk 51 3 6 52 0 = true := by decide +kernel
theorem zd51_6 : zD 51 6 (.astore 4) 2 8 = true := by decide +kernel
theorem zd51_8 : zD 51 8 (.iload_n 3) 1 9 = true := by decide +kernel
theorem zd51_9 : zDf 51 9 .ge 22 12 = true := by decide +kernel
theorem zd51_12 : zDx 51 12 1 = true := by decide +kernel
theorem zd51_15 : zD 51 15 .dup 1 16 = true := by decide +kernel
theorem zd51_22 : zD 51 22 (.aload 4) 2 24 = true := by decide +kernel
theorem zd51_24 : zDg 51 24 27 2 2 (.object "ReleaseLeaves$Tree") = true := by decide +kernel
theorem zd51_27 : zD 51 27 (.iload_n 2) 1 28 = true := by decide +kernel
theorem zd51_28 : zD 51 28 (.iload_n 3) 1 29 = true := by decide +kernel
theorem zd51_29 : zDk 51 29 32 53 0 = true := by decide +kernel
theorem zd51_32 : zD 51 32 .ireturn 1 33 = true := by decide +kernel
theorem zd52_0 : zD 52 0 (.aload_n 0) 1 1 = true := by decide +kernel
theorem zd52_1 : zD 52 1 (.iload_n 1) 1 2 = true := by decide +kernel
theorem zd52_2 : zDk 52 2 5 48 0 = true := by decide +kernel
theorem zd52_5 : zD 52 5 (.astore_n 3) 1 6 = true := by decide +kernel
theorem zd52_6 : zD 52 6 (.aload_n 3) 1 7 = true := by decide +kernel
theorem zd52_7 : zD 52 7 (.iload_n 2) 1 8 = true := by decide +kernel
theorem zd52_8 : zDk 52 8 11 44 0 = true := by decide +kernel
theorem zd52_11 : zDf 52 11 .ne 24 14 = true := by decide +kernel
theorem zd52_14 : zDx 52 14 1 = true := by decide +kernel
theorem zd52_17 : zD 52 17 .dup 1 18 = true := by decide +kernel
theorem zd52_24 : zD 52 24 (.aload_n 3) 1 25 = true := by decide +kernel
theorem zd52_25 : zD 52 25 .areturn 1 26 = true := by decide +kernel
theorem zd53_0 : zD 53 0 (.iload_n 2) 1 1 = true := by decide +kernel
theorem zd53_1 : zDf 53 1 .ne 10 4 = true := by decide +kernel
theorem zd53_4 : zD 53 4 (.aload_n 0) 1 5 = true := by decide +kernel
theorem zd53_5 : zD 53 5 (.iload_n 1) 1 6 = true := by decide +kernel
theorem zd53_6 : zDk 53 6 9 54 0 = true := by decide +kernel
theorem zd53_9 : zD 53 9 .ireturn 1 10 = true := by decide +kernel
theorem zd53_10 : zD 53 10 (.aload_n 0) 1 11 = true := by decide +kernel
theorem zd53_11 : zD 53 11 (.iload_n 1) 1 12 = true := by decide +kernel
theorem zd53_12 : zD 53 12 (.iload_n 2) 1 13 = true := by decide +kernel
theorem zd53_13 : zDc 53 13 14 (Int32.ofNat 1) = true := by decide +kernel
theorem zd53_14 : zD 53 14 .isub 1 15 = true := by decide +kernel
theorem zd53_15 : zDc 53 15 17 (Int32.ofNat 33) = true := by decide +kernel
theorem zd53_17 : zD 53 17 .idiv 1 18 = true := by decide +kernel
theorem zd53_18 : zDk 53 18 21 57 0 = true := by decide +kernel
theorem zd53_21 : zD 53 21 (.istore_n 3) 1 22 = true := by decide +kernel
theorem zd53_22 : zD 53 22 (.iload_n 3) 1 23 = true := by decide +kernel
theorem zd53_23 : zDc 53 23 24 (-1) = true := by decide +kernel
theorem zd53_24 : zDm 53 24 .ne 29 27 = true := by decide +kernel
theorem zd53_27 : zDc 53 27 28 (-1) = true := by decide +kernel
theorem zd53_28 : zD 53 28 .ireturn 1 29 = true := by decide +kernel
theorem zd53_29 : zD 53 29 (.iload_n 2) 1 30 = true := by decide +kernel
theorem zd53_30 : zDc 53 30 31 (Int32.ofNat 1) = true := by decide +kernel
theorem zd53_31 : zD 53 31 .isub 1 32 = true := by decide +kernel
theorem zd53_32 : zDc 53 32 34 (Int32.ofNat 33) = true := by decide +kernel
theorem zd53_34 : zD 53 34 .irem 1 35 = true := by decide +kernel
theorem zd53_35 : zD 53 35 (.istore 4) 2 37 = true := by decide +kernel
theorem zd53_37 : zD 53 37 (.iload_n 1) 1 38 = true := by decide +kernel
theorem zd53_38 : zD 53 38 (.iload_n 3) 1 39 = true := by decide +kernel
theorem zd53_39 : zD 53 39 .ishr 1 40 = true := by decide +kernel
theorem zd53_40 : zD 53 40 (.istore 5) 2 42 = true := by decide +kernel
theorem zd53_42 : zD 53 42 (.iload 5) 2 44 = true := by decide +kernel
theorem zd53_44 : zDk 53 44 47 56 2 = true := by decide +kernel
theorem zd53_47 : zD 53 47 (.istore 6) 2 49 = true := by decide +kernel
theorem zd53_49 : zD 53 49 (.iload 4) 2 51 = true := by decide +kernel
theorem zd53_51 : zDf 53 51 .ne 67 54 = true := by decide +kernel
theorem zd53_54 : zD 53 54 (.iload 6) 2 56 = true := by decide +kernel
theorem zd53_56 : zD 53 56 (.iload 5) 2 58 = true := by decide +kernel
theorem zd53_58 : zDm 53 58 .ge 65 61 = true := by decide +kernel
theorem zd53_61 : zDc 53 61 62 (Int32.ofNat 0) = true := by decide +kernel
theorem zd53_62 : zDj 53 62 66 = true := by decide +kernel
theorem zd53_65 : zDc 53 65 66 (Int32.ofNat 1) = true := by decide +kernel
theorem zd53_66 : zD 53 66 .ireturn 1 67 = true := by decide +kernel
theorem zd53_67 : zD 53 67 (.aload_n 0) 1 68 = true := by decide +kernel
theorem zd53_68 : zD 53 68 (.iload_n 3) 1 69 = true := by decide +kernel
theorem zd53_69 : zD 53 69 (.iload 6) 2 71 = true := by decide +kernel
theorem zd53_71 : zDk 53 71 74 17 0 = true := by decide +kernel
theorem zd53_74 : zD 53 74 (.iload 4) 2 76 = true := by decide +kernel
theorem zd53_76 : zDc 53 76 77 (Int32.ofNat 1) = true := by decide +kernel
theorem zd53_77 : zD 53 77 .isub 1 78 = true := by decide +kernel
theorem zd53_78 : zD 53 78 .iaload 1 79 = true := by decide +kernel
theorem zd53_79 : zD 53 79 .ireturn 1 80 = true := by decide +kernel
theorem zd54_0 : zDc 54 0 1 (Int32.ofNat 0) = true := by decide +kernel
theorem zd54_1 : zD 54 1 (.istore_n 2) 1 2 = true := by decide +kernel
theorem zd54_2 : zDc 54 2 3 (Int32.ofNat 0) = true := by decide +kernel
theorem zd54_3 : zD 54 3 (.istore_n 3) 1 4 = true := by decide +kernel
theorem zd54_4 : zD 54 4 (.iload_n 3) 1 5 = true := by decide +kernel
theorem zd54_5 : zD 54 5 (.aload_n 0) 1 6 = true := by decide +kernel
theorem zd54_6 : zDg 54 6 9 3 2 (.int) = true := by decide +kernel
theorem zd54_9 : zDm 54 9 .ge 30 12 = true := by decide +kernel
theorem zd54_12 : zD 54 12 (.aload_n 0) 1 13 = true := by decide +kernel
theorem zd54_13 : zD 54 13 (.iload_n 1) 1 14 = true := by decide +kernel
theorem zd54_14 : zD 54 14 (.iload_n 3) 1 15 = true := by decide +kernel
theorem zd54_15 : zDk 54 15 18 55 0 = true := by decide +kernel
theorem zd54_18 : zDf 54 18 .eq 24 21 = true := by decide +kernel
theorem zd54_21 : zDi 54 21 24 2 (Int32.ofNat 1) = true := by decide +kernel
theorem zd54_24 : zDi 54 24 27 3 (Int32.ofNat 1) = true := by decide +kernel
theorem zd54_27 : zDj 54 27 4 = true := by decide +kernel
theorem zd54_30 : zD 54 30 (.iload_n 2) 1 31 = true := by decide +kernel
theorem zd54_31 : zD 54 31 .ireturn 1 32 = true := by decide +kernel
theorem zd55_0 : zD 55 0 (.iload_n 1) 1 1 = true := by decide +kernel
theorem zd55_1 : zD 55 1 (.iload_n 2) 1 2 = true := by decide +kernel
theorem zd55_2 : zD 55 2 .ishr 1 3 = true := by decide +kernel
theorem zd55_3 : zDk 55 3 6 56 2 = true := by decide +kernel
theorem zd55_6 : zD 55 6 (.aload_n 0) 1 7 = true := by decide +kernel
theorem zd55_7 : zDg 55 7 10 3 1 (.array .int) = true := by decide +kernel
theorem zd55_10 : zD 55 10 (.iload_n 2) 1 11 = true := by decide +kernel
theorem zd55_11 : zD 55 11 .iaload 1 12 = true := by decide +kernel
theorem zd55_12 : zDm 55 12 .ge 19 15 = true := by decide +kernel
theorem zd55_15 : zDc 55 15 16 (Int32.ofNat 1) = true := by decide +kernel
theorem zd55_16 : zDj 55 16 20 = true := by decide +kernel
theorem zd55_19 : zDc 55 19 20 (Int32.ofNat 0) = true := by decide +kernel
theorem zd55_20 : zD 55 20 .ireturn 1 21 = true := by decide +kernel
theorem zd56_0 : zD 56 0 (.iload_n 0) 1 1 = true := by decide +kernel
theorem zd56_1 : zDc 56 1 2 (Int32.ofNat 1) = true := by decide +kernel
theorem zd56_2 : zD 56 2 .ixor 1 3 = true := by decide +kernel
theorem zd56_3 : zD 56 3 .ireturn 1 4 = true := by decide +kernel
theorem zd57_0 : zDc 57 0 1 (Int32.ofNat 0) = true := by decide +kernel
theorem zd57_1 : zD 57 1 (.istore_n 3) 1 2 = true := by decide +kernel
theorem zd57_2 : zDc 57 2 3 (Int32.ofNat 0) = true := by decide +kernel
theorem zd57_3 : zD 57 3 (.istore 4) 2 5 = true := by decide +kernel
theorem zd57_5 : zD 57 5 (.iload 4) 2 7 = true := by decide +kernel
theorem zd57_7 : zD 57 7 (.aload_n 0) 1 8 = true := by decide +kernel
theorem zd57_8 : zDg 57 8 11 3 2 (.int) = true := by decide +kernel
theorem zd57_11 : zDm 57 11 .ge 41 14 = true := by decide +kernel
theorem zd57_14 : zD 57 14 (.aload_n 0) 1 15 = true := by decide +kernel
theorem zd57_15 : zD 57 15 (.iload_n 1) 1 16 = true := by decide +kernel
theorem zd57_16 : zD 57 16 (.iload 4) 2 18 = true := by decide +kernel
theorem zd57_18 : zDk 57 18 21 55 0 = true := by decide +kernel
theorem zd57_21 : zDf 57 21 .eq 35 24 = true := by decide +kernel
theorem zd57_24 : zD 57 24 (.iload_n 3) 1 25 = true := by decide +kernel
theorem zd57_25 : zD 57 25 (.iload_n 2) 1 26 = true := by decide +kernel
theorem zd57_26 : zDm 57 26 .ne 32 29 = true := by decide +kernel
theorem zd57_29 : zD 57 29 (.iload 4) 2 31 = true := by decide +kernel
theorem zd57_31 : zD 57 31 .ireturn 1 32 = true := by decide +kernel
theorem zd57_32 : zDi 57 32 35 3 (Int32.ofNat 1) = true := by decide +kernel
theorem zd57_35 : zDi 57 35 38 4 (Int32.ofNat 1) = true := by decide +kernel
theorem zd57_38 : zDj 57 38 5 = true := by decide +kernel
theorem zd57_41 : zDc 57 41 42 (-1) = true := by decide +kernel
theorem zd57_42 : zD 57 42 .ireturn 1 43 = true := by decide +kernel
theorem zd59_0 : zD 59 0 (.aload_n 0) 1 1 = true := by decide +kernel
theorem zd59_1 : zD 59 1 (.iload_n 1) 1 2 = true := by decide +kernel
theorem zd59_2 : zDk 59 2 5 48 0 = true := by decide +kernel
theorem zd59_5 : zD 59 5 (.astore 4) 2 7 = true := by decide +kernel
theorem zd59_7 : zD 59 7 (.iload_n 2) 1 8 = true := by decide +kernel
theorem zd59_8 : zDf 59 8 .lt 17 11 = true := by decide +kernel
theorem zd59_11 : zD 59 11 (.iload_n 2) 1 12 = true := by decide +kernel
theorem zd59_12 : zDc 59 12 14 (Int32.ofNat 16) = true := by decide +kernel
theorem zd59_14 : zDm 59 14 .lt 27 17 = true := by decide +kernel
theorem zd59_17 : zDx 59 17 0 = true := by decide +kernel
theorem zd59_20 : zD 59 20 .dup 1 21 = true := by decide +kernel
theorem zd59_27 : zD 59 27 (.iload_n 3) 1 28 = true := by decide +kernel
theorem zd59_28 : zDf 59 28 .lt 36 31 = true := by decide +kernel
theorem zd59_31 : zD 59 31 (.iload_n 3) 1 32 = true := by decide +kernel
theorem zd59_32 : zDc 59 32 33 (Int32.ofNat 4) = true := by decide +kernel
theorem zd59_33 : zDm 59 33 .lt 46 36 = true := by decide +kernel
theorem zd59_36 : zDx 59 36 0 = true := by decide +kernel
theorem zd59_39 : zD 59 39 .dup 1 40 = true := by decide +kernel
theorem zd59_46 : zD 59 46 (.aload 4) 2 48 = true := by decide +kernel
theorem zd59_48 : zDg 59 48 51 2 3 (.array .int) = true := by decide +kernel
theorem zd59_51 : zD 59 51 (.iload_n 2) 1 52 = true := by decide +kernel
theorem zd59_52 : zD 59 52 (.iload_n 3) 1 53 = true := by decide +kernel
theorem zd59_53 : zD 59 53 .iastore 1 54 = true := by decide +kernel
theorem zd59_54 : zD 59 54 (.aload_n 0) 1 55 = true := by decide +kernel
theorem zd59_55 : zDg 59 55 58 0 7 (.object "ReleaseLeaves$EventLog") = true := by decide +kernel
theorem zd59_58 : zD 59 58 (.iload_n 1) 1 59 = true := by decide +kernel
theorem zd59_59 : zDc 59 59 60 (Int32.ofNat 0) = true := by decide +kernel
theorem zd59_60 : zD 59 60 (.iload_n 2) 1 61 = true := by decide +kernel
theorem zd59_61 : zD 59 61 (.iload_n 3) 1 62 = true := by decide +kernel
theorem zd59_62 : zDk 59 62 65 60 0 = true := by decide +kernel
theorem zd59_65 : zD 59 65 (.aload 4) 2 67 = true := by decide +kernel
theorem zd59_67 : zDk 59 67 70 61 0 = true := by decide +kernel
theorem zd59_70 : zDf 59 70 .eq 77 73 = true := by decide +kernel
theorem zd59_73 : zDc 59 73 74 (Int32.ofNat 1) = true := by decide +kernel
theorem zd59_74 : zDj 59 74 78 = true := by decide +kernel
theorem zd59_77 : zDc 59 77 78 (Int32.ofNat 0) = true := by decide +kernel
theorem zd59_78 : zD 59 78 .ireturn 1 79 = true := by decide +kernel
theorem zd60_0 : zD 60 0 (.aload_n 0) 1 1 = true := by decide +kernel
theorem zd60_1 : zDg 60 1 4 5 4 (.int) = true := by decide +kernel
theorem zd60_4 : zDc 60 4 6 (Int32.ofNat 100) = true := by decide +kernel
theorem zd60_6 : zDm 60 6 .lt 10 9 = true := by decide +kernel
theorem zd60_9 : zD 60 9 .return_ 1 10 = true := by decide +kernel
theorem zd60_10 : zD 60 10 (.aload_n 0) 1 11 = true := by decide +kernel
theorem zd60_11 : zDg 60 11 14 5 0 (.array .int) = true := by decide +kernel
theorem zd60_14 : zD 60 14 (.aload_n 0) 1 15 = true := by decide +kernel
theorem zd60_15 : zDg 60 15 18 5 4 (.int) = true := by decide +kernel
theorem zd60_18 : zD 60 18 (.iload_n 1) 1 19 = true := by decide +kernel
theorem zd60_19 : zD 60 19 .iastore 1 20 = true := by decide +kernel
theorem zd60_20 : zD 60 20 (.aload_n 0) 1 21 = true := by decide +kernel
theorem zd60_21 : zDg 60 21 24 5 1 (.array .int) = true := by decide +kernel
theorem zd60_24 : zD 60 24 (.aload_n 0) 1 25 = true := by decide +kernel
theorem zd60_25 : zDg 60 25 28 5 4 (.int) = true := by decide +kernel
theorem zd60_28 : zD 60 28 (.iload_n 2) 1 29 = true := by decide +kernel
theorem zd60_29 : zD 60 29 .iastore 1 30 = true := by decide +kernel
theorem zd60_30 : zD 60 30 (.aload_n 0) 1 31 = true := by decide +kernel
theorem zd60_31 : zDg 60 31 34 5 2 (.array .int) = true := by decide +kernel
theorem zd60_34 : zD 60 34 (.aload_n 0) 1 35 = true := by decide +kernel
theorem zd60_35 : zDg 60 35 38 5 4 (.int) = true := by decide +kernel
theorem zd60_38 : zD 60 38 (.iload_n 3) 1 39 = true := by decide +kernel
theorem zd60_39 : zD 60 39 .iastore 1 40 = true := by decide +kernel
theorem zd60_40 : zD 60 40 (.aload_n 0) 1 41 = true := by decide +kernel
theorem zd60_41 : zDg 60 41 44 5 3 (.array .int) = true := by decide +kernel
theorem zd60_44 : zD 60 44 (.aload_n 0) 1 45 = true := by decide +kernel
theorem zd60_45 : zDg 60 45 48 5 4 (.int) = true := by decide +kernel
theorem zd60_48 : zD 60 48 (.iload 4) 2 50 = true := by decide +kernel
theorem zd60_50 : zD 60 50 .iastore 1 51 = true := by decide +kernel
theorem zd60_51 : zD 60 51 (.aload_n 0) 1 52 = true := by decide +kernel
theorem zd60_52 : zD 60 52 .dup 1 53 = true := by decide +kernel
theorem zd60_53 : zDg 60 53 56 5 4 (.int) = true := by decide +kernel
theorem zd60_56 : zDc 60 56 57 (Int32.ofNat 1) = true := by decide +kernel
theorem zd60_57 : zD 60 57 .iadd 1 58 = true := by decide +kernel
theorem zd60_58 : zDp 60 58 61 5 4 (.int) = true := by decide +kernel
theorem zd60_61 : zD 60 61 .return_ 1 62 = true := by decide +kernel
theorem zd61_0 : zDc 61 0 1 (-1) = true := by decide +kernel
theorem zd61_1 : zD 61 1 (.istore_n 1) 1 2 = true := by decide +kernel
theorem zd61_2 : zD 61 2 (.aload_n 0) 1 3 = true := by decide +kernel
theorem zd61_3 : zDg 61 3 6 2 3 (.array .int) = true := by decide +kernel
theorem zd61_6 : zD 61 6 (.astore_n 2) 1 7 = true := by decide +kernel
theorem zd61_7 : zD 61 7 (.aload_n 2) 1 8 = true := by decide +kernel
theorem zd61_8 : zD 61 8 .arraylength 1 9 = true := by decide +kernel
theorem zd61_9 : zD 61 9 (.istore_n 3) 1 10 = true := by decide +kernel
theorem zd61_10 : zDc 61 10 11 (Int32.ofNat 0) = true := by decide +kernel
theorem zd61_11 : zD 61 11 (.istore 4) 2 13 = true := by decide +kernel
theorem zd61_13 : zD 61 13 (.iload 4) 2 15 = true := by decide +kernel
theorem zd61_15 : zD 61 15 (.iload_n 3) 1 16 = true := by decide +kernel
theorem zd61_16 : zDm 61 16 .ge 56 19 = true := by decide +kernel
theorem zd61_19 : zD 61 19 (.aload_n 2) 1 20 = true := by decide +kernel
theorem zd61_20 : zD 61 20 (.iload 4) 2 22 = true := by decide +kernel
theorem zd61_22 : zD 61 22 .iaload 1 23 = true := by decide +kernel
theorem zd61_23 : zD 61 23 (.istore 5) 2 25 = true := by decide +kernel
theorem zd61_25 : zD 61 25 (.iload 5) 2 27 = true := by decide +kernel
theorem zd61_27 : zDc 61 27 28 (-1) = true := by decide +kernel
theorem zd61_28 : zDm 61 28 .ne 34 31 = true := by decide +kernel
theorem zd61_31 : zDj 61 31 50 = true := by decide +kernel
theorem zd61_34 : zD 61 34 (.iload_n 1) 1 35 = true := by decide +kernel
theorem zd61_35 : zDc 61 35 36 (-1) = true := by decide +kernel
theorem zd61_36 : zDm 61 36 .eq 47 39 = true := by decide +kernel
theorem zd61_39 : zD 61 39 (.iload 5) 2 41 = true := by decide +kernel
theorem zd61_41 : zD 61 41 (.iload_n 1) 1 42 = true := by decide +kernel
theorem zd61_42 : zDm 61 42 .eq 47 45 = true := by decide +kernel
theorem zd61_45 : zDc 61 45 46 (Int32.ofNat 1) = true := by decide +kernel
theorem zd61_46 : zD 61 46 .ireturn 1 47 = true := by decide +kernel
theorem zd61_47 : zD 61 47 (.iload 5) 2 49 = true := by decide +kernel
theorem zd61_49 : zD 61 49 (.istore_n 1) 1 50 = true := by decide +kernel
theorem zd61_50 : zDi 61 50 53 4 (Int32.ofNat 1) = true := by decide +kernel
theorem zd61_53 : zDj 61 53 13 = true := by decide +kernel
theorem zd61_56 : zDc 61 56 57 (Int32.ofNat 0) = true := by decide +kernel
theorem zd61_57 : zD 61 57 .ireturn 1 58 = true := by decide +kernel
theorem zd63_0 : zD 63 0 (.aload_n 0) 1 1 = true := by decide +kernel
theorem zd63_1 : zD 63 1 (.iload_n 1) 1 2 = true := by decide +kernel
theorem zd63_2 : zDk 63 2 5 48 0 = true := by decide +kernel
theorem zd63_5 : zD 63 5 (.astore_n 2) 1 6 = true := by decide +kernel
theorem zd63_6 : zD 63 6 (.aload_n 2) 1 7 = true := by decide +kernel
theorem zd63_7 : zDg 63 7 10 2 4 (.boolean) = true := by decide +kernel
theorem zd63_10 : zDf 63 10 .eq 15 13 = true := by decide +kernel
theorem zd63_13 : zDc 63 13 14 (-1) = true := by decide +kernel
theorem zd63_14 : zD 63 14 .ireturn 1 15 = true := by decide +kernel
theorem zd63_15 : zD 63 15 (.aload_n 2) 1 16 = true := by decide +kernel
theorem zd63_16 : zDc 63 16 17 (Int32.ofNat 1) = true := by decide +kernel
theorem zd63_17 : zDp 63 17 20 2 4 (.boolean) = true := by decide +kernel
theorem zd63_20 : zD 63 20 (.aload_n 0) 1 21 = true := by decide +kernel
theorem zd63_21 : zD 63 21 .dup 1 22 = true := by decide +kernel
theorem zd63_22 : zDg 63 22 25 0 4 (.int) = true := by decide +kernel
theorem zd63_25 : zDc 63 25 26 (Int32.ofNat 1) = true := by decide +kernel
theorem zd63_26 : zD 63 26 .iadd 1 27 = true := by decide +kernel
theorem zd63_27 : zDp 63 27 30 0 4 (.int) = true := by decide +kernel
theorem zd63_30 : zD 63 30 (.aload_n 0) 1 31 = true := by decide +kernel
theorem zd63_31 : zDg 63 31 34 0 7 (.object "ReleaseLeaves$EventLog") = true := by decide +kernel
theorem zd63_34 : zD 63 34 (.iload_n 1) 1 35 = true := by decide +kernel
theorem zd63_35 : zDc 63 35 36 (Int32.ofNat 2) = true := by decide +kernel
theorem zd63_36 : zDc 63 36 37 (-1) = true := by decide +kernel
theorem zd63_37 : zDc 63 37 38 (-1) = true := by decide +kernel
theorem zd63_38 : zDk 63 38 41 60 0 = true := by decide +kernel
theorem zd63_41 : zD 63 41 (.aload_n 0) 1 42 = true := by decide +kernel
theorem zd63_42 : zDg 63 42 45 0 4 (.int) = true := by decide +kernel
theorem zd63_45 : zD 63 45 .ireturn 1 46 = true := by decide +kernel
theorem zd65_0 : zD 65 0 (.aload_n 0) 1 1 = true := by decide +kernel
theorem zd65_1 : zD 65 1 (.iload_n 1) 1 2 = true := by decide +kernel
theorem zd65_2 : zDk 65 2 5 48 0 = true := by decide +kernel
theorem zd65_5 : zD 65 5 (.astore_n 2) 1 6 = true := by decide +kernel
theorem zd65_6 : zD 65 6 (.aload_n 2) 1 7 = true := by decide +kernel
theorem zd65_7 : zDg 65 7 10 2 4 (.boolean) = true := by decide +kernel
theorem zd65_10 : zDf 65 10 .ne 29 13 = true := by decide +kernel
theorem zd65_13 : zD 65 13 (.aload_n 2) 1 14 = true := by decide +kernel
theorem zd65_14 : zDk 65 14 17 61 0 = true := by decide +kernel
theorem zd65_17 : zDf 65 17 .eq 29 20 = true := by decide +kernel
theorem zd65_20 : zD 65 20 (.aload_n 0) 1 21 = true := by decide +kernel
theorem zd65_21 : zDg 65 21 24 0 6 (.int) = true := by decide +kernel
theorem zd65_24 : zDc 65 24 26 (Int32.ofNat 60) = true := by decide +kernel
theorem zd65_26 : zDm 65 26 .lt 31 29 = true := by decide +kernel
theorem zd65_29 : zDc 65 29 30 (-1) = true := by decide +kernel
theorem zd65_30 : zD 65 30 .ireturn 1 31 = true := by decide +kernel
theorem zd65_31 : zD 65 31 (.aload_n 0) 1 32 = true := by decide +kernel
theorem zd65_32 : zDg 65 32 35 0 6 (.int) = true := by decide +kernel
theorem zd65_35 : zD 65 35 (.istore_n 3) 1 36 = true := by decide +kernel
theorem zd65_36 : zD 65 36 (.aload_n 0) 1 37 = true := by decide +kernel
theorem zd65_37 : zDg 65 37 40 0 5 (.array .int) = true := by decide +kernel
theorem zd65_40 : zD 65 40 (.iload_n 3) 1 41 = true := by decide +kernel
theorem zd65_41 : zD 65 41 (.iload_n 1) 1 42 = true := by decide +kernel
theorem zd65_42 : zD 65 42 .iastore 1 43 = true := by decide +kernel
theorem zd65_43 : zD 65 43 (.aload_n 0) 1 44 = true := by decide +kernel
theorem zd65_44 : zD 65 44 (.iload_n 3) 1 45 = true := by decide +kernel
theorem zd65_45 : zDc 65 45 46 (Int32.ofNat 1) = true := by decide +kernel
theorem zd65_46 : zD 65 46 .iadd 1 47 = true := by decide +kernel
theorem zd65_47 : zDp 65 47 50 0 6 (.int) = true := by decide +kernel
theorem zd65_50 : zD 65 50 (.aload_n 0) 1 51 = true := by decide +kernel
theorem zd65_51 : zDg 65 51 54 0 7 (.object "ReleaseLeaves$EventLog") = true := by decide +kernel
theorem zd65_54 : zD 65 54 (.iload_n 1) 1 55 = true := by decide +kernel
theorem zd65_55 : zDc 65 55 56 (Int32.ofNat 1) = true := by decide +kernel
theorem zd65_56 : zD 65 56 (.iload_n 3) 1 57 = true := by decide +kernel
theorem zd65_57 : zDc 65 57 58 (-1) = true := by decide +kernel
theorem zd65_58 : zDk 65 58 61 60 0 = true := by decide +kernel
theorem zd65_61 : zD 65 61 (.iload_n 3) 1 62 = true := by decide +kernel
theorem zd65_62 : zD 65 62 .ireturn 1 63 = true := by decide +kernel
theorem zd67_0 : zD 67 0 (.iload_n 1) 1 1 = true := by decide +kernel
theorem zd67_1 : zDf 67 1 .lt 12 4 = true := by decide +kernel
theorem zd67_4 : zD 67 4 (.iload_n 1) 1 5 = true := by decide +kernel
theorem zd67_5 : zD 67 5 (.aload_n 0) 1 6 = true := by decide +kernel
theorem zd67_6 : zDg 67 6 9 0 6 (.int) = true := by decide +kernel
theorem zd67_9 : zDm 67 9 .lt 22 12 = true := by decide +kernel
theorem zd67_12 : zDx 67 12 1 = true := by decide +kernel
theorem zd67_15 : zD 67 15 .dup 1 16 = true := by decide +kernel
theorem zd67_22 : zD 67 22 (.iload_n 3) 1 23 = true := by decide +kernel
theorem zd67_23 : zDf 67 23 .lt 31 26 = true := by decide +kernel
theorem zd67_26 : zD 67 26 (.iload_n 3) 1 27 = true := by decide +kernel
theorem zd67_27 : zDc 67 27 28 (Int32.ofNat 2) = true := by decide +kernel
theorem zd67_28 : zDm 67 28 .le 41 31 = true := by decide +kernel
theorem zd67_31 : zDx 67 31 1 = true := by decide +kernel
theorem zd67_34 : zD 67 34 .dup 1 35 = true := by decide +kernel
theorem zd67_41 : zD 67 41 (.aload_n 0) 1 42 = true := by decide +kernel
theorem zd67_42 : zDg 67 42 45 0 7 (.object "ReleaseLeaves$EventLog") = true := by decide +kernel
theorem zd67_45 : zD 67 45 (.aload_n 0) 1 46 = true := by decide +kernel
theorem zd67_46 : zDg 67 46 49 0 5 (.array .int) = true := by decide +kernel
theorem zd67_49 : zD 67 49 (.iload_n 1) 1 50 = true := by decide +kernel
theorem zd67_50 : zD 67 50 .iaload 1 51 = true := by decide +kernel
theorem zd67_51 : zD 67 51 (.iload_n 2) 1 52 = true := by decide +kernel
theorem zd67_52 : zDk 67 52 55 68 0 = true := by decide +kernel
theorem zd67_55 : zD 67 55 (.istore 4) 2 57 = true := by decide +kernel
theorem zd67_57 : zD 67 57 (.iload 4) 2 59 = true := by decide +kernel
theorem zd67_59 : zDc 67 59 60 (-1) = true := by decide +kernel
theorem zd67_60 : zDm 67 60 .ne 67 63 = true := by decide +kernel
theorem zd67_63 : zDc 67 63 64 (-1) = true := by decide +kernel
theorem zd67_64 : zDj 67 64 77 = true := by decide +kernel
theorem zd67_67 : zD 67 67 (.aload_n 0) 1 68 = true := by decide +kernel
theorem zd67_68 : zDg 67 68 71 0 7 (.object "ReleaseLeaves$EventLog") = true := by decide +kernel
theorem zd67_71 : zD 67 71 (.iload 4) 2 73 = true := by decide +kernel
theorem zd67_73 : zD 67 73 (.iload_n 3) 1 74 = true := by decide +kernel
theorem zd67_74 : zDk 67 74 77 69 0 = true := by decide +kernel
theorem zd67_77 : zD 67 77 .ireturn 1 78 = true := by decide +kernel
theorem zd68_0 : zDc 68 0 1 (Int32.ofNat 0) = true := by decide +kernel
theorem zd68_1 : zD 68 1 (.istore_n 3) 1 2 = true := by decide +kernel
theorem zd68_2 : zDc 68 2 3 (Int32.ofNat 0) = true := by decide +kernel
theorem zd68_3 : zD 68 3 (.istore 4) 2 5 = true := by decide +kernel
theorem zd68_5 : zD 68 5 (.iload 4) 2 7 = true := by decide +kernel
theorem zd68_7 : zD 68 7 (.aload_n 0) 1 8 = true := by decide +kernel
theorem zd68_8 : zDg 68 8 11 5 4 (.int) = true := by decide +kernel
theorem zd68_11 : zDm 68 11 .ge 42 14 = true := by decide +kernel
theorem zd68_14 : zD 68 14 (.aload_n 0) 1 15 = true := by decide +kernel
theorem zd68_15 : zDg 68 15 18 5 0 (.array .int) = true := by decide +kernel
theorem zd68_18 : zD 68 18 (.iload 4) 2 20 = true := by decide +kernel
theorem zd68_20 : zD 68 20 .iaload 1 21 = true := by decide +kernel
theorem zd68_21 : zD 68 21 (.iload_n 1) 1 22 = true := by decide +kernel
theorem zd68_22 : zDm 68 22 .ne 36 25 = true := by decide +kernel
theorem zd68_25 : zD 68 25 (.iload_n 3) 1 26 = true := by decide +kernel
theorem zd68_26 : zD 68 26 (.iload_n 2) 1 27 = true := by decide +kernel
theorem zd68_27 : zDm 68 27 .ne 33 30 = true := by decide +kernel
theorem zd68_30 : zD 68 30 (.iload 4) 2 32 = true := by decide +kernel
theorem zd68_32 : zD 68 32 .ireturn 1 33 = true := by decide +kernel
theorem zd68_33 : zDi 68 33 36 3 (Int32.ofNat 1) = true := by decide +kernel
theorem zd68_36 : zDi 68 36 39 4 (Int32.ofNat 1) = true := by decide +kernel
theorem zd68_39 : zDj 68 39 5 = true := by decide +kernel
theorem zd68_42 : zDc 68 42 43 (-1) = true := by decide +kernel
theorem zd68_43 : zD 68 43 .ireturn 1 44 = true := by decide +kernel
theorem zd69_0 : zD 69 0 (.iload_n 2) 1 1 = true := by decide +kernel
theorem zd69_1 : zDf 69 1 .ne 11 4 = true := by decide +kernel
theorem zd69_4 : zD 69 4 (.aload_n 0) 1 5 = true := by decide +kernel
theorem zd69_5 : zDg 69 5 8 5 1 (.array .int) = true := by decide +kernel
theorem zd69_8 : zD 69 8 (.iload_n 1) 1 9 = true := by decide +kernel
theorem zd69_9 : zD 69 9 .iaload 1 10 = true := by decide +kernel
theorem zd69_10 : zD 69 10 .ireturn 1 11 = true := by decide +kernel
theorem zd69_11 : zD 69 11 (.iload_n 2) 1 12 = true := by decide +kernel
theorem zd69_12 : zDc 69 12 13 (Int32.ofNat 1) = true := by decide +kernel
theorem zd69_13 : zDm 69 13 .ne 25 16 = true := by decide +kernel
theorem zd69_16 : zD 69 16 (.aload_n 0) 1 17 = true := by decide +kernel
theorem zd69_17 : zDg 69 17 20 5 2 (.array .int) = true := by decide +kernel
theorem zd69_20 : zD 69 20 (.iload_n 1) 1 21 = true := by decide +kernel
theorem zd69_21 : zD 69 21 .iaload 1 22 = true := by decide +kernel
theorem zd69_22 : zDj 69 22 31 = true := by decide +kernel
theorem zd69_25 : zD 69 25 (.aload_n 0) 1 26 = true := by decide +kernel
theorem zd69_26 : zDg 69 26 29 5 3 (.array .int) = true := by decide +kernel
theorem zd69_29 : zD 69 29 (.iload_n 1) 1 30 = true := by decide +kernel
theorem zd69_30 : zD 69 30 .iaload 1 31 = true := by decide +kernel
theorem zd69_31 : zD 69 31 .ireturn 1 32 = true := by decide +kernel
theorem zd71_0 : zD 71 0 (.aload_n 0) 1 1 = true := by decide +kernel
theorem zd71_1 : zD 71 1 (.iload_n 1) 1 2 = true := by decide +kernel
theorem zd71_2 : zD 71 2 (.iload_n 2) 1 3 = true := by decide +kernel
theorem zd71_3 : zDk 71 3 6 52 0 = true := by decide +kernel
theorem zd71_6 : zD 71 6 (.astore 4) 2 8 = true := by decide +kernel
theorem zd71_8 : zD 71 8 (.iload_n 3) 1 9 = true := by decide +kernel
theorem zd71_9 : zDk 71 9 12 49 2 = true := by decide +kernel
theorem zd71_12 : zD 71 12 (.aload 4) 2 14 = true := by decide +kernel
theorem zd71_14 : zDg 71 14 17 2 2 (.object "ReleaseLeaves$Tree") = true := by decide +kernel
theorem zd71_17 : zDc 71 17 18 (Int32.ofNat 0) = true := by decide +kernel
theorem zd71_18 : zD 71 18 (.iload_n 2) 1 19 = true := by decide +kernel
theorem zd71_19 : zDk 71 19 22 17 0 = true := by decide +kernel
theorem zd71_22 : zD 71 22 (.iload_n 3) 1 23 = true := by decide +kernel
theorem zd71_23 : zD 71 23 .iaload 1 24 = true := by decide +kernel
theorem zd71_24 : zD 71 24 .ireturn 1 25 = true := by decide +kernel
theorem zd73_0 : zD 73 0 (.iload_n 1) 1 1 = true := by decide +kernel
theorem zd73_1 : zDf 73 1 .lt 17 4 = true := by decide +kernel
theorem zd73_4 : zD 73 4 (.iload_n 1) 1 5 = true := by decide +kernel
theorem zd73_5 : zD 73 5 (.iload_n 2) 1 6 = true := by decide +kernel
theorem zd73_6 : zDm 73 6 .gt 17 9 = true := by decide +kernel
theorem zd73_9 : zD 73 9 (.iload_n 2) 1 10 = true := by decide +kernel
theorem zd73_10 : zD 73 10 (.aload_n 0) 1 11 = true := by decide +kernel
theorem zd73_11 : zDg 73 11 14 0 2 (.int) = true := by decide +kernel
theorem zd73_14 : zDm 73 14 .le 27 17 = true := by decide +kernel
theorem zd73_17 : zDx 73 17 1 = true := by decide +kernel
theorem zd73_20 : zD 73 20 .dup 1 21 = true := by decide +kernel
theorem zd73_27 : zD 73 27 (.iload_n 3) 1 28 = true := by decide +kernel
theorem zd73_28 : zDf 73 28 .ge 41 31 = true := by decide +kernel
theorem zd73_31 : zDx 73 31 1 = true := by decide +kernel
theorem zd73_34 : zD 73 34 .dup 1 35 = true := by decide +kernel
theorem zd73_41 : zD 73 41 (.iload_n 3) 1 42 = true := by decide +kernel
theorem zd73_42 : zDc 73 42 44 (Int32.ofNat 32) = true := by decide +kernel
theorem zd73_44 : zD 73 44 .idiv 1 45 = true := by decide +kernel
theorem zd73_45 : zD 73 45 (.istore 4) 2 47 = true := by decide +kernel
theorem zd73_47 : zD 73 47 (.iload_n 3) 1 48 = true := by decide +kernel
theorem zd73_48 : zDc 73 48 50 (Int32.ofNat 32) = true := by decide +kernel
theorem zd73_50 : zD 73 50 .irem 1 51 = true := by decide +kernel
theorem zd73_51 : zD 73 51 (.istore 5) 2 53 = true := by decide +kernel
theorem zd73_53 : zD 73 53 (.iload_n 2) 1 54 = true := by decide +kernel
theorem zd73_54 : zD 73 54 (.iload_n 1) 1 55 = true := by decide +kernel
theorem zd73_55 : zD 73 55 .isub 1 56 = true := by decide +kernel
theorem zd73_56 : zD 73 56 (.istore 6) 2 58 = true := by decide +kernel
theorem zd73_58 : zD 73 58 (.iload 4) 2 60 = true := by decide +kernel
theorem zd73_60 : zDf 73 60 .ne 73 63 = true := by decide +kernel
theorem zd73_63 : zD 73 63 (.aload_n 0) 1 64 = true := by decide +kernel
theorem zd73_64 : zDg 73 64 67 0 3 (.array (.array .int)) = true := by decide +kernel
theorem zd73_67 : zD 73 67 (.iload_n 1) 1 68 = true := by decide +kernel
theorem zd73_68 : zD 73 68 .aaload 1 69 = true := by decide +kernel
theorem zd73_69 : zD 73 69 (.iload 5) 2 71 = true := by decide +kernel
theorem zd73_71 : zD 73 71 .iaload 1 72 = true := by decide +kernel
theorem zd73_72 : zD 73 72 .ireturn 1 73 = true := by decide +kernel
theorem zd73_73 : zD 73 73 (.iload 4) 2 75 = true := by decide +kernel
theorem zd73_75 : zD 73 75 (.iload 6) 2 77 = true := by decide +kernel
theorem zd73_77 : zDm 73 77 .gt 101 80 = true := by decide +kernel
theorem zd73_80 : zD 73 80 (.aload_n 0) 1 81 = true := by decide +kernel
theorem zd73_81 : zDg 73 81 84 0 1 (.array (.object "ReleaseLeaves$Release")) = true := by decide +kernel
theorem zd73_84 : zD 73 84 (.iload_n 1) 1 85 = true := by decide +kernel
theorem zd73_85 : zD 73 85 (.iload 4) 2 87 = true := by decide +kernel
theorem zd73_87 : zD 73 87 .iadd 1 88 = true := by decide +kernel
theorem zd73_88 : zDc 73 88 89 (Int32.ofNat 1) = true := by decide +kernel
theorem zd73_89 : zD 73 89 .isub 1 90 = true := by decide +kernel
theorem zd73_90 : zD 73 90 .aaload 1 91 = true := by decide +kernel
theorem zd73_91 : zDg 73 91 94 2 2 (.object "ReleaseLeaves$Tree") = true := by decide +kernel
theorem zd73_94 : zDk 73 94 97 22 0 = true := by decide +kernel
theorem zd73_97 : zD 73 97 (.iload 5) 2 99 = true := by decide +kernel
theorem zd73_99 : zD 73 99 .iaload 1 100 = true := by decide +kernel
theorem zd73_100 : zD 73 100 .ireturn 1 101 = true := by decide +kernel
theorem zd73_101 : zD 73 101 (.iload 4) 2 103 = true := by decide +kernel
theorem zd73_103 : zD 73 103 (.iload 6) 2 105 = true := by decide +kernel
theorem zd73_105 : zDc 73 105 106 (Int32.ofNat 1) = true := by decide +kernel
theorem zd73_106 : zD 73 106 .iadd 1 107 = true := by decide +kernel
theorem zd73_107 : zDm 73 107 .ne 122 110 = true := by decide +kernel
theorem zd73_110 : zD 73 110 (.aload_n 0) 1 111 = true := by decide +kernel
theorem zd73_111 : zDg 73 111 114 0 3 (.array (.array .int)) = true := by decide +kernel
theorem zd73_114 : zD 73 114 (.iload_n 2) 1 115 = true := by decide +kernel
theorem zd73_115 : zD 73 115 .aaload 1 116 = true := by decide +kernel
theorem zd73_116 : zD 73 116 (.iload 5) 2 118 = true := by decide +kernel
theorem zd73_118 : zD 73 118 .iaload 1 119 = true := by decide +kernel
theorem zd73_119 : zDj 73 119 123 = true := by decide +kernel
theorem zd73_122 : zDc 73 122 123 (-1) = true := by decide +kernel
theorem zd73_123 : zD 73 123 .ireturn 1 124 = true := by decide +kernel
theorem zd75_0 : zD 75 0 (.aload_n 0) 1 1 = true := by decide +kernel
theorem zd75_1 : zDg 75 1 4 0 8 (.object "ReleaseLeaves$Claim") = true := by decide +kernel
theorem zd75_4 : zD 75 4 (.iload_n 1) 1 5 = true := by decide +kernel
theorem zd75_5 : zDk 75 5 8 28 0 = true := by decide +kernel
theorem zd75_8 : zDf 75 8 .ne 21 11 = true := by decide +kernel
theorem zd75_11 : zDx 75 11 1 = true := by decide +kernel
theorem zd75_14 : zD 75 14 .dup 1 15 = true := by decide +kernel
theorem zd75_21 : zD 75 21 (.aload_n 0) 1 22 = true := by decide +kernel
theorem zd75_22 : zDg 75 22 25 0 8 (.object "ReleaseLeaves$Claim") = true := by decide +kernel
theorem zd75_25 : zD 75 25 (.iload_n 1) 1 26 = true := by decide +kernel
theorem zd75_26 : zD 75 26 (.iload_n 2) 1 27 = true := by decide +kernel
theorem zd75_27 : zDk 75 27 30 76 0 = true := by decide +kernel
theorem zd75_30 : zD 75 30 .ireturn 1 31 = true := by decide +kernel
theorem zd76_0 : zD 76 0 (.aload_n 0) 1 1 = true := by decide +kernel
theorem zd76_1 : zDg 76 1 4 6 0 (.array .int) = true := by decide +kernel
theorem zd76_4 : zD 76 4 (.iload_n 1) 1 5 = true := by decide +kernel
theorem zd76_5 : zD 76 5 .iaload 1 6 = true := by decide +kernel
theorem zd76_6 : zD 76 6 (.istore_n 3) 1 7 = true := by decide +kernel
theorem zd76_7 : zD 76 7 (.aload_n 0) 1 8 = true := by decide +kernel
theorem zd76_8 : zDg 76 8 11 6 0 (.array .int) = true := by decide +kernel
theorem zd76_11 : zD 76 11 (.iload_n 1) 1 12 = true := by decide +kernel
theorem zd76_12 : zD 76 12 (.iload_n 3) 1 13 = true := by decide +kernel
theorem zd76_13 : zD 76 13 (.iload_n 2) 1 14 = true := by decide +kernel
theorem zd76_14 : zDc 76 14 17 (Int32.ofNat 255) = true := by decide +kernel
theorem zd76_17 : zD 76 17 .iand 1 18 = true := by decide +kernel
theorem zd76_18 : zD 76 18 .ixor 1 19 = true := by decide +kernel
theorem zd76_19 : zD 76 19 .iastore 1 20 = true := by decide +kernel
theorem zd76_20 : zD 76 20 (.aload_n 0) 1 21 = true := by decide +kernel
theorem zd76_21 : zDg 76 21 24 6 0 (.array .int) = true := by decide +kernel
theorem zd76_24 : zD 76 24 (.iload_n 1) 1 25 = true := by decide +kernel
theorem zd76_25 : zD 76 25 .iaload 1 26 = true := by decide +kernel
theorem zd76_26 : zD 76 26 (.iload_n 3) 1 27 = true := by decide +kernel
theorem zd76_27 : zDm 76 27 .eq 34 30 = true := by decide +kernel
theorem zd76_30 : zDc 76 30 31 (Int32.ofNat 1) = true := by decide +kernel
theorem zd76_31 : zDj 76 31 35 = true := by decide +kernel
theorem zd76_34 : zDc 76 34 35 (Int32.ofNat 0) = true := by decide +kernel
theorem zd76_35 : zD 76 35 .ireturn 1 36 = true := by decide +kernel
theorem zd78_0 : zD 78 0 (.aload_n 0) 1 1 = true := by decide +kernel
theorem zd78_1 : zD 78 1 (.iload_n 1) 1 2 = true := by decide +kernel
theorem zd78_2 : zD 78 2 (.iload_n 2) 1 3 = true := by decide +kernel
theorem zd78_3 : zDk 78 3 6 52 0 = true := by decide +kernel
theorem zd78_6 : zDg 78 6 9 2 0 (.array (.object "ReleaseLeaves$StoredFile")) = true := by decide +kernel
theorem zd78_9 : zD 78 9 (.iload_n 2) 1 10 = true := by decide +kernel
theorem zd78_10 : zD 78 10 .aaload 1 11 = true := by decide +kernel
theorem zd78_11 : zD 78 11 (.astore_n 3) 1 12 = true := by decide +kernel
theorem zd78_12 : zD 78 12 (.iload_n 1) 1 13 = true := by decide +kernel
theorem zd78_13 : zDf 78 13 .ne 18 16 = true := by decide +kernel
theorem zd78_16 : zDc 78 16 17 (Int32.ofNat 2) = true := by decide +kernel
theorem zd78_17 : zD 78 17 .ireturn 1 18 = true := by decide +kernel
theorem zd78_18 : zD 78 18 (.aload_n 0) 1 19 = true := by decide +kernel
theorem zd78_19 : zDg 78 19 22 0 1 (.array (.object "ReleaseLeaves$Release")) = true := by decide +kernel
theorem zd78_22 : zD 78 22 (.iload_n 1) 1 23 = true := by decide +kernel
theorem zd78_23 : zDc 78 23 24 (Int32.ofNat 1) = true := by decide +kernel
theorem zd78_24 : zD 78 24 .isub 1 25 = true := by decide +kernel
theorem zd78_25 : zD 78 25 .aaload 1 26 = true := by decide +kernel
theorem zd78_26 : zD 78 26 (.astore 4) 2 28 = true := by decide +kernel
theorem zd78_28 : zD 78 28 (.aload 4) 2 30 = true := by decide +kernel
theorem zd78_30 : zD 78 30 (.aload_n 3) 1 31 = true := by decide +kernel
theorem zd78_31 : zDg 78 31 34 4 0 (.int) = true := by decide +kernel
theorem zd78_34 : zDk 78 34 37 41 0 = true := by decide +kernel
theorem zd78_37 : zD 78 37 (.istore 5) 2 39 = true := by decide +kernel
theorem zd78_39 : zD 78 39 (.iload 5) 2 41 = true := by decide +kernel
theorem zd78_41 : zDc 78 41 42 (-1) = true := by decide +kernel
theorem zd78_42 : zDm 78 42 .ne 47 45 = true := by decide +kernel
theorem zd78_45 : zDc 78 45 46 (Int32.ofNat 2) = true := by decide +kernel
theorem zd78_46 : zD 78 46 .ireturn 1 47 = true := by decide +kernel
theorem zd78_47 : zD 78 47 (.aload_n 3) 1 48 = true := by decide +kernel
theorem zd78_48 : zD 78 48 (.aload 4) 2 50 = true := by decide +kernel
theorem zd78_50 : zDg 78 50 53 2 0 (.array (.object "ReleaseLeaves$StoredFile")) = true := by decide +kernel
theorem zd78_53 : zD 78 53 (.iload 5) 2 55 = true := by decide +kernel
theorem zd78_55 : zD 78 55 .aaload 1 56 = true := by decide +kernel
theorem zd78_56 : zDk 78 56 59 79 0 = true := by decide +kernel
theorem zd78_59 : zDf 78 59 .eq 66 62 = true := by decide +kernel
theorem zd78_62 : zDc 78 62 63 (Int32.ofNat 0) = true := by decide +kernel
theorem zd78_63 : zDj 78 63 67 = true := by decide +kernel
theorem zd78_66 : zDc 78 66 67 (Int32.ofNat 1) = true := by decide +kernel
theorem zd78_67 : zD 78 67 .ireturn 1 68 = true := by decide +kernel
theorem zd79_0 : zD 79 0 (.aload_n 0) 1 1 = true := by decide +kernel
theorem zd79_1 : zDg 79 1 4 4 2 (.int) = true := by decide +kernel
theorem zd79_4 : zD 79 4 (.aload_n 1) 1 5 = true := by decide +kernel
theorem zd79_5 : zDg 79 5 8 4 2 (.int) = true := by decide +kernel
theorem zd79_8 : zDm 79 8 .ne 33 11 = true := by decide +kernel
theorem zd79_11 : zD 79 11 (.aload_n 0) 1 12 = true := by decide +kernel
theorem zd79_12 : zDg 79 12 15 4 1 (.array .int) = true := by decide +kernel
theorem zd79_15 : zD 79 15 (.aload_n 1) 1 16 = true := by decide +kernel
theorem zd79_16 : zDg 79 16 19 4 1 (.array .int) = true := by decide +kernel
theorem zd79_19 : zD 79 19 (.aload_n 0) 1 20 = true := by decide +kernel
theorem zd79_20 : zDg 79 20 23 4 2 (.int) = true := by decide +kernel
theorem zd79_23 : zDk 79 23 26 34 2 = true := by decide +kernel
theorem zd79_26 : zDf 79 26 .eq 33 29 = true := by decide +kernel
theorem zd79_29 : zDc 79 29 30 (Int32.ofNat 1) = true := by decide +kernel
theorem zd79_30 : zDj 79 30 34 = true := by decide +kernel
theorem zd79_33 : zDc 79 33 34 (Int32.ofNat 0) = true := by decide +kernel
theorem zd79_34 : zD 79 34 .ireturn 1 35 = true := by decide +kernel
