/-! the codes of the methods, by program -/
theorem zco_1 : lw_tbl[51]? = some (Cond.code (zy 1) (zcd 1) (zmx 1) (zrt 1)) := by decide +kernel
theorem zco_2 : lw_tbl[59]? = some (Cond.code (zy 2) (zcd 2) (zmx 2) (zrt 2)) := by decide +kernel
theorem zco_3 : lw_tbl[79]? = some (Cond.code (zy 3) (zcd 3) (zmx 3) (zrt 3)) := by decide +kernel
theorem zco_4 : lw_tbl[87]? = some (Cond.code (zy 4) (zcd 4) (zmx 4) (zrt 4)) := by decide +kernel
theorem zco_5 : lw_tbl[104]? = some (Cond.code (zy 5) (zcd 5) (zmx 5) (zrt 5)) := by decide +kernel
theorem zco_6 : lw_tbl[142]? = some (Cond.code (zy 6) (zcd 6) (zmx 6) (zrt 6)) := by decide +kernel
theorem zco_7 : lw_tbl[151]? = some (Cond.code (zy 7) (zcd 7) (zmx 7) (zrt 7)) := by decide +kernel
theorem zco_8 : lw_tbl[155]? = some (Cond.code (zy 8) (zcd 8) (zmx 8) (zrt 8)) := by decide +kernel
theorem zco_9 : lw_tbl[159]? = some (Cond.code (zy 9) (zcd 9) (zmx 9) (zrt 9)) := by decide +kernel
theorem zco_10 : lw_tbl[162]? = some (Cond.code (zy 10) (zcd 10) (zmx 10) (zrt 10)) := by decide +kernel
theorem zco_11 : lw_tbl[166]? = some (Cond.code (zy 11) (zcd 11) (zmx 11) (zrt 11)) := by decide +kernel
theorem zco_12 : lw_tbl[171]? = some (Cond.code (zy 12) (zcd 12) (zmx 12) (zrt 12)) := by decide +kernel
theorem zco_13 : lw_tbl[193]? = some (Cond.code (zy 13) (zcd 13) (zmx 13) (zrt 13)) := by decide +kernel
theorem zco_14 : lw_tbl[236]? = some (Cond.code (zy 14) (zcd 14) (zmx 14) (zrt 14)) := by decide +kernel
theorem zco_15 : lw_tbl[240]? = some (Cond.code (zy 15) (zcd 15) (zmx 15) (zrt 15)) := by decide +kernel
theorem zco_16 : lw_tbl[244]? = some (Cond.code (zy 16) (zcd 16) (zmx 16) (zrt 16)) := by decide +kernel
theorem zco_17 : lw_tbl[249]? = some (Cond.code (zy 17) (zcd 17) (zmx 17) (zrt 17)) := by decide +kernel
theorem zco_18 : lw_tbl[252]? = some (Cond.code (zy 18) (zcd 18) (zmx 18) (zrt 18)) := by decide +kernel
theorem zco_19 : lw_tbl[257]? = some (Cond.code (zy 19) (zcd 19) (zmx 19) (zrt 19)) := by decide +kernel
theorem zco_20 : lw_tbl[263]? = some (Cond.code (zy 20) (zcd 20) (zmx 20) (zrt 20)) := by decide +kernel
theorem zco_21 : lw_tbl[271]? = some (Cond.code (zy 21) (zcd 21) (zmx 21) (zrt 21)) := by decide +kernel
theorem zco_22 : lw_tbl[276]? = some (Cond.code (zy 22) (zcd 22) (zmx 22) (zrt 22)) := by decide +kernel
theorem zco_23 : lw_tbl[282]? = some (Cond.code (zy 23) (zcd 23) (zmx 23) (zrt 23)) := by decide +kernel
theorem zco_24 : lw_tbl[286]? = some (Cond.code (zy 24) (zcd 24) (zmx 24) (zrt 24)) := by decide +kernel
theorem zco_25 : lw_tbl[289]? = some (Cond.code (zy 25) (zcd 25) (zmx 25) (zrt 25)) := by decide +kernel
theorem zco_26 : lw_tbl[293]? = some (Cond.code (zy 26) (zcd 26) (zmx 26) (zrt 26)) := by decide +kernel
theorem zco_27 : lw_tbl[297]? = some (Cond.code (zy 27) (zcd 27) (zmx 27) (zrt 27)) := by decide +kernel
theorem zco_28 : lw_tbl[301]? = some (Cond.code (zy 28) (zcd 28) (zmx 28) (zrt 28)) := by decide +kernel
theorem zco_29 : lw_tbl[305]? = some (Cond.code (zy 29) (zcd 29) (zmx 29) (zrt 29)) := by decide +kernel
theorem zco_30 : lw_tbl[309]? = some (Cond.code (zy 30) (zcd 30) (zmx 30) (zrt 30)) := by decide +kernel
theorem zco_31 : lw_tbl[313]? = some (Cond.code (zy 31) (zcd 31) (zmx 31) (zrt 31)) := by decide +kernel
theorem zco_32 : lw_tbl[317]? = some (Cond.code (zy 32) (zcd 32) (zmx 32) (zrt 32)) := by decide +kernel
theorem zco_33 : lw_tbl[321]? = some (Cond.code (zy 33) (zcd 33) (zmx 33) (zrt 33)) := by decide +kernel
theorem zco_34 : lw_tbl[329]? = some (Cond.code (zy 34) (zcd 34) (zmx 34) (zrt 34)) := by decide +kernel
theorem zco_35 : lw_tbl[333]? = some (Cond.code (zy 35) (zcd 35) (zmx 35) (zrt 35)) := by decide +kernel
theorem zco_36 : lw_tbl[337]? = some (Cond.code (zy 36) (zcd 36) (zmx 36) (zrt 36)) := by decide +kernel
theorem zco_37 : lw_tbl[341]? = some (Cond.code (zy 37) (zcd 37) (zmx 37) (zrt 37)) := by decide +kernel
theorem zco_38 : lw_tbl[345]? = some (Cond.code (zy 38) (zcd 38) (zmx 38) (zrt 38)) := by decide +kernel
theorem zco_39 : lw_tbl[348]? = some (Cond.codeWith (zy 39) (zcd 39) (zmx 39) (zrt 39) (zhd 39)) := by decide +kernel
theorem zco_40 : lw_tbl[353]? = some (Cond.code (zy 40) (zcd 40) (zmx 40) (zrt 40)) := by decide +kernel
theorem zco_41 : lw_tbl[425]? = some (Cond.code (zy 41) (zcd 41) (zmx 41) (zrt 41)) := by decide +kernel
theorem zco_42 : lw_tbl[429]? = some (Cond.code (zy 42) (zcd 42) (zmx 42) (zrt 42)) := by decide +kernel
theorem zco_43 : lw_tbl[432]? = some (Cond.codeWith (zy 43) (zcd 43) (zmx 43) (zrt 43) (zhd 43)) := by decide +kernel
theorem zco_44 : lw_tbl[437]? = some (Cond.code (zy 44) (zcd 44) (zmx 44) (zrt 44)) := by decide +kernel
theorem zco_45 : lw_tbl[441]? = some (Cond.code (zy 45) (zcd 45) (zmx 45) (zrt 45)) := by decide +kernel
theorem zco_46 : lw_tbl[462]? = some (Cond.code (zy 46) (zcd 46) (zmx 46) (zrt 46)) := by decide +kernel
theorem zco_47 : lw_tbl[465]? = some (Cond.codeWith (zy 47) (zcd 47) (zmx 47) (zrt 47) (zhd 47)) := by decide +kernel
theorem zco_48 : lw_tbl[469]? = some (Cond.code (zy 48) (zcd 48) (zmx 48) (zrt 48)) := by decide +kernel
theorem zco_49 : lw_tbl[473]? = some (Cond.code (zy 49) (zcd 49) (zmx 49) (zrt 49)) := by decide +kernel
theorem zco_50 : lw_tbl[477]? = some (Cond.code (zy 50) (zcd 50) (zmx 50) (zrt 50)) := by decide +kernel
theorem zco_51 : lw_tbl[481]? = some (Cond.codeWith (zy 51) (zcd 51) (zmx 51) (zrt 51) (zhd 51)) := by decide +kernel
theorem zco_52 : lw_tbl[485]? = some (Cond.code (zy 52) (zcd 52) (zmx 52) (zrt 52)) := by decide +kernel
theorem zco_53 : lw_tbl[489]? = some (Cond.code (zy 53) (zcd 53) (zmx 53) (zrt 53)) := by decide +kernel
theorem zco_54 : lw_tbl[495]? = some (Cond.code (zy 54) (zcd 54) (zmx 54) (zrt 54)) := by decide +kernel
theorem zco_55 : lw_tbl[499]? = some (Cond.code (zy 55) (zcd 55) (zmx 55) (zrt 55)) := by decide +kernel
theorem zco_56 : lw_tbl[503]? = some (Cond.code (zy 56) (zcd 56) (zmx 56) (zrt 56)) := by decide +kernel
theorem zco_57 : lw_tbl[506]? = some (Cond.code (zy 57) (zcd 57) (zmx 57) (zrt 57)) := by decide +kernel
theorem zco_58 : lw_tbl[510]? = some (Cond.code (zy 58) (zcd 58) (zmx 58) (zrt 58)) := by decide +kernel
theorem zco_59 : lw_tbl[513]? = some (Cond.codeWith (zy 59) (zcd 59) (zmx 59) (zrt 59) (zhd 59)) := by decide +kernel
theorem zco_60 : lw_tbl[517]? = some (Cond.code (zy 60) (zcd 60) (zmx 60) (zrt 60)) := by decide +kernel
theorem zco_61 : lw_tbl[523]? = some (Cond.code (zy 61) (zcd 61) (zmx 61) (zrt 61)) := by decide +kernel
theorem zco_62 : lw_tbl[527]? = some (Cond.code (zy 62) (zcd 62) (zmx 62) (zrt 62)) := by decide +kernel
theorem zco_63 : lw_tbl[530]? = some (Cond.codeWith (zy 63) (zcd 63) (zmx 63) (zrt 63) (zhd 63)) := by decide +kernel
theorem zco_64 : lw_tbl[534]? = some (Cond.code (zy 64) (zcd 64) (zmx 64) (zrt 64)) := by decide +kernel
theorem zco_65 : lw_tbl[537]? = some (Cond.codeWith (zy 65) (zcd 65) (zmx 65) (zrt 65) (zhd 65)) := by decide +kernel
theorem zco_66 : lw_tbl[541]? = some (Cond.code (zy 66) (zcd 66) (zmx 66) (zrt 66)) := by decide +kernel
theorem zco_67 : lw_tbl[544]? = some (Cond.codeWith (zy 67) (zcd 67) (zmx 67) (zrt 67) (zhd 67)) := by decide +kernel
theorem zco_68 : lw_tbl[548]? = some (Cond.code (zy 68) (zcd 68) (zmx 68) (zrt 68)) := by decide +kernel
theorem zco_69 : lw_tbl[554]? = some (Cond.code (zy 69) (zcd 69) (zmx 69) (zrt 69)) := by decide +kernel
theorem zco_70 : lw_tbl[558]? = some (Cond.code (zy 70) (zcd 70) (zmx 70) (zrt 70)) := by decide +kernel
theorem zco_71 : lw_tbl[561]? = some (Cond.codeWith (zy 71) (zcd 71) (zmx 71) (zrt 71) (zhd 71)) := by decide +kernel
theorem zco_72 : lw_tbl[565]? = some (Cond.code (zy 72) (zcd 72) (zmx 72) (zrt 72)) := by decide +kernel
theorem zco_73 : lw_tbl[569]? = some (Cond.codeWith (zy 73) (zcd 73) (zmx 73) (zrt 73) (zhd 73)) := by decide +kernel
theorem zco_74 : lw_tbl[573]? = some (Cond.code (zy 74) (zcd 74) (zmx 74) (zrt 74)) := by decide +kernel
theorem zco_75 : lw_tbl[578]? = some (Cond.codeWith (zy 75) (zcd 75) (zmx 75) (zrt 75) (zhd 75)) := by decide +kernel
theorem zco_76 : lw_tbl[582]? = some (Cond.code (zy 76) (zcd 76) (zmx 76) (zrt 76)) := by decide +kernel
theorem zco_77 : lw_tbl[588]? = some (Cond.code (zy 77) (zcd 77) (zmx 77) (zrt 77)) := by decide +kernel
theorem zco_78 : lw_tbl[591]? = some (Cond.codeWith (zy 78) (zcd 78) (zmx 78) (zrt 78) (zhd 78)) := by decide +kernel
theorem zco_79 : lw_tbl[595]? = some (Cond.code (zy 79) (zcd 79) (zmx 79) (zrt 79)) := by decide +kernel
theorem zco_80 : lw_tbl[600]? = some (Cond.code (zy 80) (zcd 80) (zmx 80) (zrt 80)) := by decide +kernel
theorem zco_81 : lw_tbl[606]? = some (Cond.code (zy 81) (zcd 81) (zmx 81) (zrt 81)) := by decide +kernel
theorem zco_82 : lw_tbl[615]? = some (Cond.code (zy 82) (zcd 82) (zmx 82) (zrt 82)) := by decide +kernel
theorem zco_83 : lw_tbl[619]? = some (Cond.code (zy 83) (zcd 83) (zmx 83) (zrt 83)) := by decide +kernel
theorem zco_84 : lw_tbl[749]? = some (Cond.code (zy 84) (zcd 84) (zmx 84) (zrt 84)) := by decide +kernel
theorem zco_85 : lw_tbl[753]? = some (Cond.code (zy 85) (zcd 85) (zmx 85) (zrt 85)) := by decide +kernel
theorem zco_86 : lw_tbl[758]? = some (Cond.code (zy 86) (zcd 86) (zmx 86) (zrt 86)) := by decide +kernel
theorem zco_87 : lw_tbl[762]? = some (Cond.code (zy 87) (zcd 87) (zmx 87) (zrt 87)) := by decide +kernel
theorem zco_88 : lw_tbl[765]? = some (Cond.code (zy 88) (zcd 88) (zmx 88) (zrt 88)) := by decide +kernel
theorem zco_89 : lw_tbl[769]? = some (Cond.code (zy 89) (zcd 89) (zmx 89) (zrt 89)) := by decide +kernel
theorem zco_90 : lw_tbl[773]? = some (Cond.code (zy 90) (zcd 90) (zmx 90) (zrt 90)) := by decide +kernel
theorem zco_91 : lw_tbl[777]? = some (Cond.code (zy 91) (zcd 91) (zmx 91) (zrt 91)) := by decide +kernel
theorem zco_92 : lw_tbl[781]? = some (Cond.code (zy 92) (zcd 92) (zmx 92) (zrt 92)) := by decide +kernel
theorem zco_93 : lw_tbl[785]? = some (Cond.code (zy 93) (zcd 93) (zmx 93) (zrt 93)) := by decide +kernel
theorem zco_94 : lw_tbl[797]? = some (Cond.code (zy 94) (zcd 94) (zmx 94) (zrt 94)) := by decide +kernel
theorem zco_95 : lw_tbl[800]? = some (Cond.code (zy 95) (zcd 95) (zmx 95) (zrt 95)) := by decide +kernel
theorem zco_96 : lw_tbl[804]? = some (Cond.code (zy 96) (zcd 96) (zmx 96) (zrt 96)) := by decide +kernel
theorem zco_97 : lw_tbl[808]? = some (Cond.code (zy 97) (zcd 97) (zmx 97) (zrt 97)) := by decide +kernel
theorem zco_98 : lw_tbl[812]? = some (Cond.code (zy 98) (zcd 98) (zmx 98) (zrt 98)) := by decide +kernel
theorem zco_99 : lw_tbl[816]? = some (Cond.code (zy 99) (zcd 99) (zmx 99) (zrt 99)) := by decide +kernel
theorem zco_100 : lw_tbl[820]? = some (Cond.code (zy 100) (zcd 100) (zmx 100) (zrt 100)) := by decide +kernel
theorem zco_101 : lw_tbl[824]? = some (Cond.code (zy 101) (zcd 101) (zmx 101) (zrt 101)) := by decide +kernel
theorem zco_102 : lw_tbl[828]? = some (Cond.code (zy 102) (zcd 102) (zmx 102) (zrt 102)) := by decide +kernel
theorem zco_103 : lw_tbl[832]? = some (Cond.code (zy 103) (zcd 103) (zmx 103) (zrt 103)) := by decide +kernel
theorem zco_104 : lw_tbl[836]? = some (Cond.code (zy 104) (zcd 104) (zmx 104) (zrt 104)) := by decide +kernel
theorem zco_105 : lw_tbl[840]? = some (Cond.code (zy 105) (zcd 105) (zmx 105) (zrt 105)) := by decide +kernel
theorem zco_106 : lw_tbl[843]? = some (Cond.code (zy 106) (zcd 106) (zmx 106) (zrt 106)) := by decide +kernel
theorem zco_107 : lw_tbl[847]? = some (Cond.code (zy 107) (zcd 107) (zmx 107) (zrt 107)) := by decide +kernel
theorem zco_108 : lw_tbl[851]? = some (Cond.code (zy 108) (zcd 108) (zmx 108) (zrt 108)) := by decide +kernel
theorem zco_109 : lw_tbl[855]? = some (Cond.code (zy 109) (zcd 109) (zmx 109) (zrt 109)) := by decide +kernel
theorem zco_110 : lw_tbl[859]? = some (Cond.code (zy 110) (zcd 110) (zmx 110) (zrt 110)) := by decide +kernel
theorem zco_111 : lw_tbl[863]? = some (Cond.code (zy 111) (zcd 111) (zmx 111) (zrt 111)) := by decide +kernel
theorem zco_112 : lw_tbl[867]? = some (Cond.code (zy 112) (zcd 112) (zmx 112) (zrt 112)) := by decide +kernel
theorem zco_113 : lw_tbl[871]? = some (Cond.code (zy 113) (zcd 113) (zmx 113) (zrt 113)) := by decide +kernel
theorem zco_114 : lw_tbl[875]? = some (Cond.code (zy 114) (zcd 114) (zmx 114) (zrt 114)) := by decide +kernel
theorem zco_115 : lw_tbl[879]? = some (Cond.code (zy 115) (zcd 115) (zmx 115) (zrt 115)) := by decide +kernel
theorem zco_116 : lw_tbl[883]? = some (Cond.code (zy 116) (zcd 116) (zmx 116) (zrt 116)) := by decide +kernel
theorem zco_117 : lw_tbl[887]? = some (Cond.code (zy 117) (zcd 117) (zmx 117) (zrt 117)) := by decide +kernel
theorem zco_118 : lw_tbl[891]? = some (Cond.code (zy 118) (zcd 118) (zmx 118) (zrt 118)) := by decide +kernel
theorem zco_119 : lw_tbl[895]? = some (Cond.code (zy 119) (zcd 119) (zmx 119) (zrt 119)) := by decide +kernel
theorem zco_120 : lw_tbl[899]? = some (Cond.code (zy 120) (zcd 120) (zmx 120) (zrt 120)) := by decide +kernel
theorem zco_121 : lw_tbl[903]? = some (Cond.code (zy 121) (zcd 121) (zmx 121) (zrt 121)) := by decide +kernel
