/-! the code words, by their places -/
set_option maxRecDepth 100000 in
theorem cw_0 : lw_tbl[457]? = some (Cond.code (mN 0) (mB 0) (mL 0) (mR 0)) := rfl
set_option maxRecDepth 100000 in
theorem cw_1 : lw_tbl[450]? = some (Cond.code (mN 1) (mB 1) (mL 1) (mR 1)) := rfl
set_option maxRecDepth 100000 in
theorem cw_2 : lw_tbl[489]? = some (Cond.code (mN 2) (mB 2) (mL 2) (mR 2)) := rfl
set_option maxRecDepth 100000 in
theorem cw_3 : lw_tbl[478]? = some (Cond.code (mN 3) (mB 3) (mL 3) (mR 3)) := rfl
set_option maxRecDepth 100000 in
theorem cw_4 : lw_tbl[466]? = some (Cond.code (mN 4) (mB 4) (mL 4) (mR 4)) := rfl
set_option maxRecDepth 100000 in
theorem cw_5 : lw_tbl[453]? = some (Cond.code (mN 5) (mB 5) (mL 5) (mR 5)) := rfl
set_option maxRecDepth 100000 in
theorem cw_6 : lw_tbl[364]? = some (Cond.code (mN 6) (mB 6) (mL 6) (mR 6)) := rfl
set_option maxRecDepth 100000 in
theorem cw_7 : lw_tbl[215]? = some (Cond.code (mN 7) (mB 7) (mL 7) (mR 7)) := rfl
set_option maxRecDepth 100000 in
theorem cw_8 : lw_tbl[368]? = some (Cond.code (mN 8) (mB 8) (mL 8) (mR 8)) := rfl
set_option maxRecDepth 100000 in
theorem cw_9 : lw_tbl[219]? = some (Cond.code (mN 9) (mB 9) (mL 9) (mR 9)) := rfl
set_option maxRecDepth 100000 in
theorem cw_10 : lw_tbl[534]? = some (Cond.code (mN 10) (mB 10) (mL 10) (mR 10)) := rfl
set_option maxRecDepth 100000 in
theorem cw_11 : lw_tbl[540]? = some (Cond.code (mN 11) (mB 11) (mL 11) (mR 11)) := rfl
set_option maxRecDepth 100000 in
theorem cw_12 : lw_tbl[544]? = some (Cond.code (mN 12) (mB 12) (mL 12) (mR 12)) := rfl
set_option maxRecDepth 100000 in
theorem cw_13 : lw_tbl[563]? = some (Cond.code (mN 13) (mB 13) (mL 13) (mR 13)) := rfl
set_option maxRecDepth 100000 in
theorem cw_14 : lw_tbl[559]? = some (Cond.code (mN 14) (mB 14) (mL 14) (mR 14)) := rfl
set_option maxRecDepth 100000 in
theorem cw_15 : lw_tbl[551]? = some (Cond.code (mN 15) (mB 15) (mL 15) (mR 15)) := rfl
set_option maxRecDepth 100000 in
theorem cw_16 : lw_tbl[555]? = some (Cond.code (mN 16) (mB 16) (mL 16) (mR 16)) := rfl
set_option maxRecDepth 100000 in
theorem cw_17 : lw_tbl[210]? = some (Cond.code (mN 17) (mB 17) (mL 17) (mR 17)) := rfl
set_option maxRecDepth 100000 in
theorem cw_18 : lw_tbl[255]? = some (Cond.code (mN 18) (mB 18) (mL 18) (mR 18)) := rfl
set_option maxRecDepth 100000 in
theorem cw_19 : lw_tbl[273]? = some (Cond.code (mN 19) (mB 19) (mL 19) (mR 19)) := rfl
set_option maxRecDepth 100000 in
theorem cw_20 : lw_tbl[232]? = some (Cond.code (mN 20) (mB 20) (mL 20) (mR 20)) := rfl
set_option maxRecDepth 100000 in
theorem cw_21 : lw_tbl[260]? = some (Cond.code (mN 21) (mB 21) (mL 21) (mR 21)) := rfl
set_option maxRecDepth 100000 in
theorem cw_22 : lw_tbl[237]? = some (Cond.code (mN 22) (mB 22) (mL 22) (mR 22)) := rfl
set_option maxRecDepth 100000 in
theorem cw_23 : lw_tbl[247]? = some (Cond.code (mN 23) (mB 23) (mL 23) (mR 23)) := rfl
set_option maxRecDepth 100000 in
theorem cw_24 : lw_tbl[227]? = some (Cond.code (mN 24) (mB 24) (mL 24) (mR 24)) := rfl
set_option maxRecDepth 100000 in
theorem cw_25 : lw_tbl[223]? = some (Cond.code (mN 25) (mB 25) (mL 25) (mR 25)) := rfl
set_option maxRecDepth 100000 in
theorem cw_26 : lw_tbl[376]? = some (Cond.code (mN 26) (mB 26) (mL 26) (mR 26)) := rfl
set_option maxRecDepth 100000 in
theorem cw_27 : lw_tbl[380]? = some (Cond.code (mN 27) (mB 27) (mL 27) (mR 27)) := rfl
set_option maxRecDepth 100000 in
theorem cw_28 : lw_tbl[384]? = some (Cond.code (mN 28) (mB 28) (mL 28) (mR 28)) := rfl
set_option maxRecDepth 100000 in
theorem cw_29 : lw_tbl[391]? = some (Cond.code (mN 29) (mB 29) (mL 29) (mR 29)) := rfl
set_option maxRecDepth 100000 in
theorem cw_30 : lw_tbl[399]? = some (Cond.code (mN 30) (mB 30) (mL 30) (mR 30)) := rfl
set_option maxRecDepth 100000 in
theorem cw_31 : lw_tbl[395]? = some (Cond.code (mN 31) (mB 31) (mL 31) (mR 31)) := rfl
set_option maxRecDepth 100000 in
theorem cw_32 : lw_tbl[348]? = some (Cond.code (mN 32) (mB 32) (mL 32) (mR 32)) := rfl
set_option maxRecDepth 100000 in
theorem cw_33 : lw_tbl[278]? = some (Cond.code (mN 33) (mB 33) (mL 33) (mR 33)) := rfl
set_option maxRecDepth 100000 in
theorem cw_34 : lw_tbl[340]? = some (Cond.code (mN 34) (mB 34) (mL 34) (mR 34)) := rfl
set_option maxRecDepth 100000 in
theorem cw_35 : lw_tbl[303]? = some (Cond.code (mN 35) (mB 35) (mL 35) (mR 35)) := rfl
set_option maxRecDepth 100000 in
theorem cw_36 : lw_tbl[307]? = some (Cond.code (mN 36) (mB 36) (mL 36) (mR 36)) := rfl
set_option maxRecDepth 100000 in
theorem cw_37 : lw_tbl[312]? = some (Cond.code (mN 37) (mB 37) (mL 37) (mR 37)) := rfl
set_option maxRecDepth 100000 in
theorem cw_38 : lw_tbl[316]? = some (Cond.code (mN 38) (mB 38) (mL 38) (mR 38)) := rfl
set_option maxRecDepth 100000 in
theorem cw_39 : lw_tbl[320]? = some (Cond.code (mN 39) (mB 39) (mL 39) (mR 39)) := rfl
set_option maxRecDepth 100000 in
theorem cw_40 : lw_tbl[408]? = some (Cond.code (mN 40) (mB 40) (mL 40) (mR 40)) := rfl
set_option maxRecDepth 100000 in
theorem cw_41 : lw_tbl[548]? = some (Cond.code (mN 41) (mB 41) (mL 41) (mR 41)) := rfl
set_option maxRecDepth 100000 in
theorem cw_42 : lw_tbl[518]? = some (Cond.code (mN 42) (mB 42) (mL 42) (mR 42)) := rfl
set_option maxRecDepth 100000 in
theorem cw_43 : lw_tbl[526]? = some (Cond.code (mN 43) (mB 43) (mL 43) (mR 43)) := rfl
set_option maxRecDepth 100000 in
theorem cw_44 : lw_tbl[200]? = some (Cond.code (mN 44) (mB 44) (mL 44) (mR 44)) := rfl
set_option maxRecDepth 100000 in
theorem cw_45 : lw_tbl[242]? = some (Cond.code (mN 45) (mB 45) (mL 45) (mR 45)) := rfl
set_option maxRecDepth 100000 in
theorem cw_46 : lw_tbl[251]? = some (Cond.code (mN 46) (mB 46) (mL 46) (mR 46)) := rfl
set_option maxRecDepth 100000 in
theorem cw_47 : lw_tbl[264]? = some (Cond.code (mN 47) (mB 47) (mL 47) (mR 47)) := rfl
set_option maxRecDepth 100000 in
theorem cw_48 : lw_tbl[269]? = some (Cond.code (mN 48) (mB 48) (mL 48) (mR 48)) := rfl
set_option maxRecDepth 100000 in
theorem cw_49 : lw_tbl[295]? = some (Cond.code (mN 49) (mB 49) (mL 49) (mR 49)) := rfl
set_option maxRecDepth 100000 in
theorem cw_50 : lw_tbl[299]? = some (Cond.code (mN 50) (mB 50) (mL 50) (mR 50)) := rfl
set_option maxRecDepth 100000 in
theorem cw_51 : lw_tbl[331]? = some (Cond.code (mN 51) (mB 51) (mL 51) (mR 51)) := rfl
set_option maxRecDepth 100000 in
theorem cw_52 : lw_tbl[344]? = some (Cond.code (mN 52) (mB 52) (mL 52) (mR 52)) := rfl
set_option maxRecDepth 100000 in
theorem cw_53 : lw_tbl[356]? = some (Cond.code (mN 53) (mB 53) (mL 53) (mR 53)) := rfl
set_option maxRecDepth 100000 in
theorem cw_54 : lw_tbl[360]? = some (Cond.code (mN 54) (mB 54) (mL 54) (mR 54)) := rfl
set_option maxRecDepth 100000 in
theorem cw_55 : lw_tbl[372]? = some (Cond.code (mN 55) (mB 55) (mL 55) (mR 55)) := rfl
set_option maxRecDepth 100000 in
theorem cw_56 : lw_tbl[412]? = some (Cond.code (mN 56) (mB 56) (mL 56) (mR 56)) := rfl
set_option maxRecDepth 100000 in
theorem cw_57 : lw_tbl[416]? = some (Cond.code (mN 57) (mB 57) (mL 57) (mR 57)) := rfl
set_option maxRecDepth 100000 in
theorem cw_58 : lw_tbl[426]? = some (Cond.code (mN 58) (mB 58) (mL 58) (mR 58)) := rfl
set_option maxRecDepth 100000 in
theorem cw_59 : lw_tbl[430]? = some (Cond.code (mN 59) (mB 59) (mL 59) (mR 59)) := rfl
set_option maxRecDepth 100000 in
theorem cw_60 : lw_tbl[461]? = some (Cond.code (mN 60) (mB 60) (mL 60) (mR 60)) := rfl
set_option maxRecDepth 100000 in
theorem cw_61 : lw_tbl[474]? = some (Cond.code (mN 61) (mB 61) (mL 61) (mR 61)) := rfl
set_option maxRecDepth 100000 in
theorem cw_62 : lw_tbl[485]? = some (Cond.code (mN 62) (mB 62) (mL 62) (mR 62)) := rfl
set_option maxRecDepth 100000 in
theorem cw_63 : lw_tbl[493]? = some (Cond.code (mN 63) (mB 63) (mL 63) (mR 63)) := rfl
set_option maxRecDepth 100000 in
theorem cw_64 : lw_tbl[502]? = some (Cond.code (mN 64) (mB 64) (mL 64) (mR 64)) := rfl
set_option maxRecDepth 100000 in
theorem cw_65 : lw_tbl[510]? = some (Cond.code (mN 65) (mB 65) (mL 65) (mR 65)) := rfl
set_option maxRecDepth 100000 in
theorem cw_66 : lw_tbl[514]? = some (Cond.code (mN 66) (mB 66) (mL 66) (mR 66)) := rfl
set_option maxRecDepth 100000 in
theorem cw_67 : lw_tbl[522]? = some (Cond.code (mN 67) (mB 67) (mL 67) (mR 67)) := rfl
set_option maxRecDepth 100000 in
theorem cw_68 : lw_tbl[530]? = some (Cond.code (mN 68) (mB 68) (mL 68) (mR 68)) := rfl
set_option maxRecDepth 100000 in
theorem cw_69 : lw_tbl[569]? = some (Cond.code (mN 69) (mB 69) (mL 69) (mR 69)) := rfl
set_option maxRecDepth 100000 in
theorem cw_70 : lw_tbl[573]? = some (Cond.code (mN 70) (mB 70) (mL 70) (mR 70)) := rfl
set_option maxRecDepth 100000 in
theorem cw_71 : lw_tbl[581]? = some (Cond.code (mN 71) (mB 71) (mL 71) (mR 71)) := rfl
set_option maxRecDepth 100000 in
theorem cw_72 : lw_tbl[203]? = some (Cond.code (mN 72) (mB 72) (mL 72) (mR 72)) := rfl
set_option maxRecDepth 100000 in
theorem cw_73 : lw_tbl[334]? = some (Cond.code (mN 73) (mB 73) (mL 73) (mR 73)) := rfl
set_option maxRecDepth 100000 in
theorem cw_74 : lw_tbl[419]? = some (Cond.code (mN 74) (mB 74) (mL 74) (mR 74)) := rfl
set_option maxRecDepth 100000 in
theorem cw_75 : lw_tbl[422]? = some (Cond.code (mN 75) (mB 75) (mL 75) (mR 75)) := rfl
set_option maxRecDepth 100000 in
theorem cw_76 : lw_tbl[433]? = some (Cond.code (mN 76) (mB 76) (mL 76) (mR 76)) := rfl
set_option maxRecDepth 100000 in
theorem cw_77 : lw_tbl[577]? = some (Cond.code (mN 77) (mB 77) (mL 77) (mR 77)) := rfl
set_option maxRecDepth 100000 in
theorem cw_78 : lw_tbl[286]? = some (Cond.code (mN 78) (mB 78) (mL 78) (mR 78)) := rfl
set_option maxRecDepth 100000 in
theorem cw_79 : lw_tbl[290]? = some (Cond.code (mN 79) (mB 79) (mL 79) (mR 79)) := rfl
set_option maxRecDepth 100000 in
theorem cw_80 : lw_tbl[324]? = some (Cond.code (mN 80) (mB 80) (mL 80) (mR 80)) := rfl
set_option maxRecDepth 100000 in
theorem cw_81 : lw_tbl[352]? = some (Cond.code (mN 81) (mB 81) (mL 81) (mR 81)) := rfl
set_option maxRecDepth 100000 in
theorem cw_82 : lw_tbl[404]? = some (Cond.code (mN 82) (mB 82) (mL 82) (mR 82)) := rfl
set_option maxRecDepth 100000 in
theorem cw_83 : lw_tbl[438]? = some (Cond.code (mN 83) (mB 83) (mL 83) (mR 83)) := rfl
set_option maxRecDepth 100000 in
theorem cw_84 : lw_tbl[441]? = some (Cond.code (mN 84) (mB 84) (mL 84) (mR 84)) := rfl
set_option maxRecDepth 100000 in
theorem cw_85 : lw_tbl[445]? = some (Cond.code (mN 85) (mB 85) (mL 85) (mR 85)) := rfl
set_option maxRecDepth 100000 in
theorem cw_86 : lw_tbl[470]? = some (Cond.code (mN 86) (mB 86) (mL 86) (mR 86)) := rfl
set_option maxRecDepth 100000 in
theorem cw_87 : lw_tbl[497]? = some (Cond.code (mN 87) (mB 87) (mL 87) (mR 87)) := rfl
set_option maxRecDepth 100000 in
theorem cw_88 : lw_tbl[505]? = some (Cond.code (mN 88) (mB 88) (mL 88) (mR 88)) := rfl
set_option maxRecDepth 100000 in
theorem cw_89 : lw_tbl[673]? = some (Cond.code (mN 89) (mB 89) (mL 89) (mR 89)) := rfl
set_option maxRecDepth 100000 in
theorem cw_90 : lw_tbl[661]? = some (Cond.code (mN 90) (mB 90) (mL 90) (mR 90)) := rfl
set_option maxRecDepth 100000 in
theorem cw_91 : lw_tbl[681]? = some (Cond.code (mN 91) (mB 91) (mL 91) (mR 91)) := rfl
set_option maxRecDepth 100000 in
theorem cw_92 : lw_tbl[693]? = some (Cond.code (mN 92) (mB 92) (mL 92) (mR 92)) := rfl
set_option maxRecDepth 100000 in
theorem cw_93 : lw_tbl[666]? = some (Cond.code (mN 93) (mB 93) (mL 93) (mR 93)) := rfl
set_option maxRecDepth 100000 in
theorem cw_94 : lw_tbl[654]? = some (Cond.code (mN 94) (mB 94) (mL 94) (mR 94)) := rfl
set_option maxRecDepth 100000 in
theorem cw_95 : lw_tbl[701]? = some (Cond.code (mN 95) (mB 95) (mL 95) (mR 95)) := rfl
set_option maxRecDepth 100000 in
theorem cw_96 : lw_tbl[651]? = some (Cond.code (mN 96) (mB 96) (mL 96) (mR 96)) := rfl
set_option maxRecDepth 100000 in
theorem cw_97 : lw_tbl[670]? = some (Cond.code (mN 97) (mB 97) (mL 97) (mR 97)) := rfl
set_option maxRecDepth 100000 in
theorem cw_98 : lw_tbl[677]? = some (Cond.code (mN 98) (mB 98) (mL 98) (mR 98)) := rfl
set_option maxRecDepth 100000 in
theorem cw_99 : lw_tbl[685]? = some (Cond.code (mN 99) (mB 99) (mL 99) (mR 99)) := rfl
set_option maxRecDepth 100000 in
theorem cw_100 : lw_tbl[705]? = some (Cond.code (mN 100) (mB 100) (mL 100) (mR 100)) := rfl
set_option maxRecDepth 100000 in
theorem cw_101 : lw_tbl[698]? = some (Cond.code (mN 101) (mB 101) (mL 101) (mR 101)) := rfl
set_option maxRecDepth 100000 in
theorem cw_102 : lw_tbl[689]? = some (Cond.code (mN 102) (mB 102) (mL 102) (mR 102)) := rfl
set_option maxRecDepth 100000 in
theorem cw_103 : lw_tbl[710]? = some (Cond.code (mN 103) (mB 103) (mL 103) (mR 103)) := rfl
set_option maxRecDepth 100000 in
theorem cw_104 : lw_tbl[716]? = some (Cond.code (mN 104) (mB 104) (mL 104) (mR 104)) := rfl
set_option maxRecDepth 100000 in
theorem cw_105 : lw_tbl[748]? = some (Cond.code (mN 105) (mB 105) (mL 105) (mR 105)) := rfl
set_option maxRecDepth 100000 in
theorem cw_106 : lw_tbl[744]? = some (Cond.code (mN 106) (mB 106) (mL 106) (mR 106)) := rfl
set_option maxRecDepth 100000 in
theorem cw_107 : lw_tbl[740]? = some (Cond.code (mN 107) (mB 107) (mL 107) (mR 107)) := rfl
set_option maxRecDepth 100000 in
theorem cw_108 : lw_tbl[756]? = some (Cond.code (mN 108) (mB 108) (mL 108) (mR 108)) := rfl
set_option maxRecDepth 100000 in
theorem cw_109 : lw_tbl[760]? = some (Cond.code (mN 109) (mB 109) (mL 109) (mR 109)) := rfl
set_option maxRecDepth 100000 in
theorem cw_110 : lw_tbl[752]? = some (Cond.code (mN 110) (mB 110) (mL 110) (mR 110)) := rfl
set_option maxRecDepth 100000 in
theorem cw_111 : lw_tbl[764]? = some (Cond.code (mN 111) (mB 111) (mL 111) (mR 111)) := rfl
set_option maxRecDepth 100000 in
theorem cw_112 : lw_tbl[768]? = some (Cond.code (mN 112) (mB 112) (mL 112) (mR 112)) := rfl
set_option maxRecDepth 100000 in
theorem cw_113 : lw_tbl[784]? = some (Cond.code (mN 113) (mB 113) (mL 113) (mR 113)) := rfl
set_option maxRecDepth 100000 in
theorem cw_114 : lw_tbl[776]? = some (Cond.code (mN 114) (mB 114) (mL 114) (mR 114)) := rfl
set_option maxRecDepth 100000 in
theorem cw_115 : lw_tbl[780]? = some (Cond.code (mN 115) (mB 115) (mL 115) (mR 115)) := rfl
set_option maxRecDepth 100000 in
theorem cw_116 : lw_tbl[788]? = some (Cond.code (mN 116) (mB 116) (mL 116) (mR 116)) := rfl
set_option maxRecDepth 100000 in
theorem cw_117 : lw_tbl[772]? = some (Cond.code (mN 117) (mB 117) (mL 117) (mR 117)) := rfl
set_option maxRecDepth 100000 in
theorem cw_118 : lw_tbl[792]? = some (Cond.code (mN 118) (mB 118) (mL 118) (mR 118)) := rfl
set_option maxRecDepth 100000 in
theorem cw_119 : lw_tbl[724]? = some (Cond.code (mN 119) (mB 119) (mL 119) (mR 119)) := rfl
set_option maxRecDepth 100000 in
theorem cw_120 : lw_tbl[728]? = some (Cond.code (mN 120) (mB 120) (mL 120) (mR 120)) := rfl
set_option maxRecDepth 100000 in
theorem cw_121 : lw_tbl[736]? = some (Cond.code (mN 121) (mB 121) (mL 121) (mR 121)) := rfl
set_option maxRecDepth 100000 in
theorem cw_122 : lw_tbl[732]? = some (Cond.code (mN 122) (mB 122) (mL 122) (mR 122)) := rfl
set_option maxRecDepth 100000 in
theorem cw_123 : lw_tbl[799]? = some (Cond.code (mN 123) (mB 123) (mL 123) (mR 123)) := rfl
set_option maxRecDepth 100000 in
theorem cw_124 : lw_tbl[796]? = some (Cond.code (mN 124) (mB 124) (mL 124) (mR 124)) := rfl
set_option maxRecDepth 100000 in
theorem cw_125 : lw_tbl[720]? = some (Cond.code (mN 125) (mB 125) (mL 125) (mR 125)) := rfl
set_option maxRecDepth 100000 in
theorem cw_126 : lw_tbl[803]? = some (Cond.code (mN 126) (mB 126) (mL 126) (mR 126)) := rfl
set_option maxRecDepth 100000 in
theorem cw_127 : lw_tbl[820]? = some (Cond.code (mN 127) (mB 127) (mL 127) (mR 127)) := rfl
set_option maxRecDepth 100000 in
theorem cw_128 : lw_tbl[815]? = some (Cond.code (mN 128) (mB 128) (mL 128) (mR 128)) := rfl
set_option maxRecDepth 100000 in
theorem cw_129 : lw_tbl[810]? = some (Cond.code (mN 129) (mB 129) (mL 129) (mR 129)) := rfl
set_option maxRecDepth 100000 in
theorem cw_130 : lw_tbl[807]? = some (Cond.code (mN 130) (mB 130) (mL 130) (mR 130)) := rfl
set_option maxRecDepth 100000 in
theorem cw_131 : lw_tbl[825]? = some (Cond.code (mN 131) (mB 131) (mL 131) (mR 131)) := rfl
set_option maxRecDepth 100000 in
theorem cw_132 : lw_tbl[838]? = some (Cond.code (mN 132) (mB 132) (mL 132) (mR 132)) := rfl
set_option maxRecDepth 100000 in
theorem cw_133 : lw_tbl[835]? = some (Cond.code (mN 133) (mB 133) (mL 133) (mR 133)) := rfl
set_option maxRecDepth 100000 in
theorem cw_134 : lw_tbl[831]? = some (Cond.code (mN 134) (mB 134) (mL 134) (mR 134)) := rfl
set_option maxRecDepth 100000 in
theorem cw_135 : lw_tbl[842]? = some (Cond.code (mN 135) (mB 135) (mL 135) (mR 135)) := rfl
set_option maxRecDepth 100000 in
theorem cw_136 : lw_tbl[850]? = some (Cond.code (mN 136) (mB 136) (mL 136) (mR 136)) := rfl
set_option maxRecDepth 100000 in
theorem cw_137 : lw_tbl[846]? = some (Cond.code (mN 137) (mB 137) (mL 137) (mR 137)) := rfl
set_option maxRecDepth 100000 in
theorem cw_138 : lw_tbl[855]? = some (Cond.code (mN 138) (mB 138) (mL 138) (mR 138)) := rfl
set_option maxRecDepth 100000 in
theorem cw_139 : lw_tbl[859]? = some (Cond.code (mN 139) (mB 139) (mL 139) (mR 139)) := rfl
set_option maxRecDepth 100000 in
theorem cw_140 : lw_tbl[863]? = some (Cond.code (mN 140) (mB 140) (mL 140) (mR 140)) := rfl
set_option maxRecDepth 100000 in
theorem cw_141 : lw_tbl[867]? = some (Cond.code (mN 141) (mB 141) (mL 141) (mR 141)) := rfl
set_option maxRecDepth 100000 in
theorem cw_142 : lw_tbl[891]? = some (Cond.code (mN 142) (mB 142) (mL 142) (mR 142)) := rfl
set_option maxRecDepth 100000 in
theorem cw_143 : lw_tbl[887]? = some (Cond.code (mN 143) (mB 143) (mL 143) (mR 143)) := rfl
set_option maxRecDepth 100000 in
theorem cw_144 : lw_tbl[879]? = some (Cond.code (mN 144) (mB 144) (mL 144) (mR 144)) := rfl
set_option maxRecDepth 100000 in
theorem cw_145 : lw_tbl[883]? = some (Cond.code (mN 145) (mB 145) (mL 145) (mR 145)) := rfl
set_option maxRecDepth 100000 in
theorem cw_146 : lw_tbl[875]? = some (Cond.code (mN 146) (mB 146) (mL 146) (mR 146)) := rfl
set_option maxRecDepth 100000 in
theorem cw_147 : lw_tbl[871]? = some (Cond.code (mN 147) (mB 147) (mL 147) (mR 147)) := rfl
set_option maxRecDepth 100000 in
theorem cw_148 : lw_tbl[895]? = some (Cond.code (mN 148) (mB 148) (mL 148) (mR 148)) := rfl
set_option maxRecDepth 100000 in
theorem cw_149 : lw_tbl[902]? = some (Cond.code (mN 149) (mB 149) (mL 149) (mR 149)) := rfl
set_option maxRecDepth 100000 in
theorem cw_150 : lw_tbl[899]? = some (Cond.code (mN 150) (mB 150) (mL 150) (mR 150)) := rfl
set_option maxRecDepth 100000 in
theorem cw_151 : lw_tbl[906]? = some (Cond.code (mN 151) (mB 151) (mL 151) (mR 151)) := rfl
set_option maxRecDepth 100000 in
theorem cw_152 : lw_tbl[481]? = some (Cond.code (mN 152) (mB 152) (mL 152) (mR 152)) := rfl
set_option maxRecDepth 100000 in
theorem cw_153 : lw_tbl[282]? = some (Cond.code (mN 153) (mB 153) (mL 153) (mR 153)) := rfl
set_option maxRecDepth 100000 in
theorem cw_154 : lw_tbl[387]? = some (Cond.code (mN 154) (mB 154) (mL 154) (mR 154)) := rfl
theorem cw_all : ∀ y, y < 155 → Cond.code (mN y) (mB y) (mL y) (mR y) ∈ lw_tbl := by
  intro y h
  match y, h with
  | 0, _ => exact List.mem_of_getElem? cw_0
  | 1, _ => exact List.mem_of_getElem? cw_1
  | 2, _ => exact List.mem_of_getElem? cw_2
  | 3, _ => exact List.mem_of_getElem? cw_3
  | 4, _ => exact List.mem_of_getElem? cw_4
  | 5, _ => exact List.mem_of_getElem? cw_5
  | 6, _ => exact List.mem_of_getElem? cw_6
  | 7, _ => exact List.mem_of_getElem? cw_7
  | 8, _ => exact List.mem_of_getElem? cw_8
  | 9, _ => exact List.mem_of_getElem? cw_9
  | 10, _ => exact List.mem_of_getElem? cw_10
  | 11, _ => exact List.mem_of_getElem? cw_11
  | 12, _ => exact List.mem_of_getElem? cw_12
  | 13, _ => exact List.mem_of_getElem? cw_13
  | 14, _ => exact List.mem_of_getElem? cw_14
  | 15, _ => exact List.mem_of_getElem? cw_15
  | 16, _ => exact List.mem_of_getElem? cw_16
  | 17, _ => exact List.mem_of_getElem? cw_17
  | 18, _ => exact List.mem_of_getElem? cw_18
  | 19, _ => exact List.mem_of_getElem? cw_19
  | 20, _ => exact List.mem_of_getElem? cw_20
  | 21, _ => exact List.mem_of_getElem? cw_21
  | 22, _ => exact List.mem_of_getElem? cw_22
  | 23, _ => exact List.mem_of_getElem? cw_23
  | 24, _ => exact List.mem_of_getElem? cw_24
  | 25, _ => exact List.mem_of_getElem? cw_25
  | 26, _ => exact List.mem_of_getElem? cw_26
  | 27, _ => exact List.mem_of_getElem? cw_27
  | 28, _ => exact List.mem_of_getElem? cw_28
  | 29, _ => exact List.mem_of_getElem? cw_29
  | 30, _ => exact List.mem_of_getElem? cw_30
  | 31, _ => exact List.mem_of_getElem? cw_31
  | 32, _ => exact List.mem_of_getElem? cw_32
  | 33, _ => exact List.mem_of_getElem? cw_33
  | 34, _ => exact List.mem_of_getElem? cw_34
  | 35, _ => exact List.mem_of_getElem? cw_35
  | 36, _ => exact List.mem_of_getElem? cw_36
  | 37, _ => exact List.mem_of_getElem? cw_37
  | 38, _ => exact List.mem_of_getElem? cw_38
  | 39, _ => exact List.mem_of_getElem? cw_39
  | 40, _ => exact List.mem_of_getElem? cw_40
  | 41, _ => exact List.mem_of_getElem? cw_41
  | 42, _ => exact List.mem_of_getElem? cw_42
  | 43, _ => exact List.mem_of_getElem? cw_43
  | 44, _ => exact List.mem_of_getElem? cw_44
  | 45, _ => exact List.mem_of_getElem? cw_45
  | 46, _ => exact List.mem_of_getElem? cw_46
  | 47, _ => exact List.mem_of_getElem? cw_47
  | 48, _ => exact List.mem_of_getElem? cw_48
  | 49, _ => exact List.mem_of_getElem? cw_49
  | 50, _ => exact List.mem_of_getElem? cw_50
  | 51, _ => exact List.mem_of_getElem? cw_51
  | 52, _ => exact List.mem_of_getElem? cw_52
  | 53, _ => exact List.mem_of_getElem? cw_53
  | 54, _ => exact List.mem_of_getElem? cw_54
  | 55, _ => exact List.mem_of_getElem? cw_55
  | 56, _ => exact List.mem_of_getElem? cw_56
  | 57, _ => exact List.mem_of_getElem? cw_57
  | 58, _ => exact List.mem_of_getElem? cw_58
  | 59, _ => exact List.mem_of_getElem? cw_59
  | 60, _ => exact List.mem_of_getElem? cw_60
  | 61, _ => exact List.mem_of_getElem? cw_61
  | 62, _ => exact List.mem_of_getElem? cw_62
  | 63, _ => exact List.mem_of_getElem? cw_63
  | 64, _ => exact List.mem_of_getElem? cw_64
  | 65, _ => exact List.mem_of_getElem? cw_65
  | 66, _ => exact List.mem_of_getElem? cw_66
  | 67, _ => exact List.mem_of_getElem? cw_67
  | 68, _ => exact List.mem_of_getElem? cw_68
  | 69, _ => exact List.mem_of_getElem? cw_69
  | 70, _ => exact List.mem_of_getElem? cw_70
  | 71, _ => exact List.mem_of_getElem? cw_71
  | 72, _ => exact List.mem_of_getElem? cw_72
  | 73, _ => exact List.mem_of_getElem? cw_73
  | 74, _ => exact List.mem_of_getElem? cw_74
  | 75, _ => exact List.mem_of_getElem? cw_75
  | 76, _ => exact List.mem_of_getElem? cw_76
  | 77, _ => exact List.mem_of_getElem? cw_77
  | 78, _ => exact List.mem_of_getElem? cw_78
  | 79, _ => exact List.mem_of_getElem? cw_79
  | 80, _ => exact List.mem_of_getElem? cw_80
  | 81, _ => exact List.mem_of_getElem? cw_81
  | 82, _ => exact List.mem_of_getElem? cw_82
  | 83, _ => exact List.mem_of_getElem? cw_83
  | 84, _ => exact List.mem_of_getElem? cw_84
  | 85, _ => exact List.mem_of_getElem? cw_85
  | 86, _ => exact List.mem_of_getElem? cw_86
  | 87, _ => exact List.mem_of_getElem? cw_87
  | 88, _ => exact List.mem_of_getElem? cw_88
  | 89, _ => exact List.mem_of_getElem? cw_89
  | 90, _ => exact List.mem_of_getElem? cw_90
  | 91, _ => exact List.mem_of_getElem? cw_91
  | 92, _ => exact List.mem_of_getElem? cw_92
  | 93, _ => exact List.mem_of_getElem? cw_93
  | 94, _ => exact List.mem_of_getElem? cw_94
  | 95, _ => exact List.mem_of_getElem? cw_95
  | 96, _ => exact List.mem_of_getElem? cw_96
  | 97, _ => exact List.mem_of_getElem? cw_97
  | 98, _ => exact List.mem_of_getElem? cw_98
  | 99, _ => exact List.mem_of_getElem? cw_99
  | 100, _ => exact List.mem_of_getElem? cw_100
  | 101, _ => exact List.mem_of_getElem? cw_101
  | 102, _ => exact List.mem_of_getElem? cw_102
  | 103, _ => exact List.mem_of_getElem? cw_103
  | 104, _ => exact List.mem_of_getElem? cw_104
  | 105, _ => exact List.mem_of_getElem? cw_105
  | 106, _ => exact List.mem_of_getElem? cw_106
  | 107, _ => exact List.mem_of_getElem? cw_107
  | 108, _ => exact List.mem_of_getElem? cw_108
  | 109, _ => exact List.mem_of_getElem? cw_109
  | 110, _ => exact List.mem_of_getElem? cw_110
  | 111, _ => exact List.mem_of_getElem? cw_111
  | 112, _ => exact List.mem_of_getElem? cw_112
  | 113, _ => exact List.mem_of_getElem? cw_113
  | 114, _ => exact List.mem_of_getElem? cw_114
  | 115, _ => exact List.mem_of_getElem? cw_115
  | 116, _ => exact List.mem_of_getElem? cw_116
  | 117, _ => exact List.mem_of_getElem? cw_117
  | 118, _ => exact List.mem_of_getElem? cw_118
  | 119, _ => exact List.mem_of_getElem? cw_119
  | 120, _ => exact List.mem_of_getElem? cw_120
  | 121, _ => exact List.mem_of_getElem? cw_121
  | 122, _ => exact List.mem_of_getElem? cw_122
  | 123, _ => exact List.mem_of_getElem? cw_123
  | 124, _ => exact List.mem_of_getElem? cw_124
  | 125, _ => exact List.mem_of_getElem? cw_125
  | 126, _ => exact List.mem_of_getElem? cw_126
  | 127, _ => exact List.mem_of_getElem? cw_127
  | 128, _ => exact List.mem_of_getElem? cw_128
  | 129, _ => exact List.mem_of_getElem? cw_129
  | 130, _ => exact List.mem_of_getElem? cw_130
  | 131, _ => exact List.mem_of_getElem? cw_131
  | 132, _ => exact List.mem_of_getElem? cw_132
  | 133, _ => exact List.mem_of_getElem? cw_133
  | 134, _ => exact List.mem_of_getElem? cw_134
  | 135, _ => exact List.mem_of_getElem? cw_135
  | 136, _ => exact List.mem_of_getElem? cw_136
  | 137, _ => exact List.mem_of_getElem? cw_137
  | 138, _ => exact List.mem_of_getElem? cw_138
  | 139, _ => exact List.mem_of_getElem? cw_139
  | 140, _ => exact List.mem_of_getElem? cw_140
  | 141, _ => exact List.mem_of_getElem? cw_141
  | 142, _ => exact List.mem_of_getElem? cw_142
  | 143, _ => exact List.mem_of_getElem? cw_143
  | 144, _ => exact List.mem_of_getElem? cw_144
  | 145, _ => exact List.mem_of_getElem? cw_145
  | 146, _ => exact List.mem_of_getElem? cw_146
  | 147, _ => exact List.mem_of_getElem? cw_147
  | 148, _ => exact List.mem_of_getElem? cw_148
  | 149, _ => exact List.mem_of_getElem? cw_149
  | 150, _ => exact List.mem_of_getElem? cw_150
  | 151, _ => exact List.mem_of_getElem? cw_151
  | 152, _ => exact List.mem_of_getElem? cw_152
  | 153, _ => exact List.mem_of_getElem? cw_153
  | 154, _ => exact List.mem_of_getElem? cw_154
  | n + 155, h => exact absurd h (by omega)
