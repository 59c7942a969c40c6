/-! PRINTED by wip/whole/tool/gen2.py: the code words stand in the tables -/
set_option maxRecDepth 100000 in
set_option maxHeartbeats 2000000 in
theorem mc_0 : lw_tbl[108]? = some (.code (mm_y 0) (mm_by 0) (mm_maxL 0) (mm_re 0)) := rfl
set_option maxRecDepth 100000 in
set_option maxHeartbeats 2000000 in
theorem mc_1 : lw_tbl[134]? = some (.code (mm_y 1) (mm_by 1) (mm_maxL 1) (mm_re 1)) := rfl
set_option maxRecDepth 100000 in
set_option maxHeartbeats 2000000 in
theorem mc_2 : lw_tbl[138]? = some (.code (mm_y 2) (mm_by 2) (mm_maxL 2) (mm_re 2)) := rfl
set_option maxRecDepth 100000 in
set_option maxHeartbeats 2000000 in
theorem mc_3 : lw_tbl[142]? = some (.code (mm_y 3) (mm_by 3) (mm_maxL 3) (mm_re 3)) := rfl
set_option maxRecDepth 100000 in
set_option maxHeartbeats 2000000 in
theorem mc_4 : lw_tbl[145]? = some (.code (mm_y 4) (mm_by 4) (mm_maxL 4) (mm_re 4)) := rfl
set_option maxRecDepth 100000 in
set_option maxHeartbeats 2000000 in
theorem mc_5 : lw_tbl[148]? = some (.code (mm_y 5) (mm_by 5) (mm_maxL 5) (mm_re 5)) := rfl
set_option maxRecDepth 100000 in
set_option maxHeartbeats 2000000 in
theorem mc_6 : lw_tbl[151]? = some (.code (mm_y 6) (mm_by 6) (mm_maxL 6) (mm_re 6)) := rfl
set_option maxRecDepth 100000 in
set_option maxHeartbeats 2000000 in
theorem mc_7 : lw_tbl[154]? = some (.code (mm_y 7) (mm_by 7) (mm_maxL 7) (mm_re 7)) := rfl
set_option maxRecDepth 100000 in
set_option maxHeartbeats 2000000 in
theorem mc_8 : lw_tbl[167]? = some (.code (mm_y 8) (mm_by 8) (mm_maxL 8) (mm_re 8)) := rfl
set_option maxRecDepth 100000 in
set_option maxHeartbeats 2000000 in
theorem mc_9 : lw_tbl[170]? = some (.code (mm_y 9) (mm_by 9) (mm_maxL 9) (mm_re 9)) := rfl
set_option maxRecDepth 100000 in
set_option maxHeartbeats 2000000 in
theorem mc_10 : lw_tbl[173]? = some (.code (mm_y 10) (mm_by 10) (mm_maxL 10) (mm_re 10)) := rfl
set_option maxRecDepth 100000 in
set_option maxHeartbeats 2000000 in
theorem mc_11 : lw_tbl[176]? = some (.code (mm_y 11) (mm_by 11) (mm_maxL 11) (mm_re 11)) := rfl
set_option maxRecDepth 100000 in
set_option maxHeartbeats 2000000 in
theorem mc_12 : lw_tbl[183]? = some (.code (mm_y 12) (mm_by 12) (mm_maxL 12) (mm_re 12)) := rfl
set_option maxRecDepth 100000 in
set_option maxHeartbeats 2000000 in
theorem mc_13 : lw_tbl[187]? = some (.code (mm_y 13) (mm_by 13) (mm_maxL 13) (mm_re 13)) := rfl
set_option maxRecDepth 100000 in
set_option maxHeartbeats 2000000 in
theorem mc_14 : lw_tbl[190]? = some (.code (mm_y 14) (mm_by 14) (mm_maxL 14) (mm_re 14)) := rfl
set_option maxRecDepth 100000 in
set_option maxHeartbeats 2000000 in
theorem mc_15 : lw_tbl[194]? = some (.code (mm_y 15) (mm_by 15) (mm_maxL 15) (mm_re 15)) := rfl
set_option maxRecDepth 100000 in
set_option maxHeartbeats 2000000 in
theorem mc_16 : lw_tbl[198]? = some (.code (mm_y 16) (mm_by 16) (mm_maxL 16) (mm_re 16)) := rfl
set_option maxRecDepth 100000 in
set_option maxHeartbeats 2000000 in
theorem mc_17 : lw_tbl[220]? = some (.code (mm_y 17) (mm_by 17) (mm_maxL 17) (mm_re 17)) := rfl
set_option maxRecDepth 100000 in
set_option maxHeartbeats 2000000 in
theorem mc_18 : lw_tbl[224]? = some (.code (mm_y 18) (mm_by 18) (mm_maxL 18) (mm_re 18)) := rfl
set_option maxRecDepth 100000 in
set_option maxHeartbeats 2000000 in
theorem mc_19 : lw_tbl[228]? = some (.code (mm_y 19) (mm_by 19) (mm_maxL 19) (mm_re 19)) := rfl
set_option maxRecDepth 100000 in
set_option maxHeartbeats 2000000 in
theorem mc_20 : lw_tbl[234]? = some (.code (mm_y 20) (mm_by 20) (mm_maxL 20) (mm_re 20)) := rfl
set_option maxRecDepth 100000 in
set_option maxHeartbeats 2000000 in
theorem mc_21 : lw_tbl[237]? = some (.code (mm_y 21) (mm_by 21) (mm_maxL 21) (mm_re 21)) := rfl
set_option maxRecDepth 100000 in
set_option maxHeartbeats 2000000 in
theorem mc_22 : lw_tbl[243]? = some (.code (mm_y 22) (mm_by 22) (mm_maxL 22) (mm_re 22)) := rfl
set_option maxRecDepth 100000 in
set_option maxHeartbeats 2000000 in
theorem mc_23 : lw_tbl[246]? = some (.code (mm_y 23) (mm_by 23) (mm_maxL 23) (mm_re 23)) := rfl
set_option maxRecDepth 100000 in
set_option maxHeartbeats 2000000 in
theorem mc_24 : lw_tbl[249]? = some (.code (mm_y 24) (mm_by 24) (mm_maxL 24) (mm_re 24)) := rfl
set_option maxRecDepth 100000 in
set_option maxHeartbeats 2000000 in
theorem mc_25 : lw_tbl[282]? = some (.code (mm_y 25) (mm_by 25) (mm_maxL 25) (mm_re 25)) := rfl
set_option maxRecDepth 100000 in
set_option maxHeartbeats 2000000 in
theorem mc_26 : lw_tbl[287]? = some (.code (mm_y 26) (mm_by 26) (mm_maxL 26) (mm_re 26)) := rfl
set_option maxRecDepth 100000 in
set_option maxHeartbeats 2000000 in
theorem mc_27 : lw_tbl[291]? = some (.code (mm_y 27) (mm_by 27) (mm_maxL 27) (mm_re 27)) := rfl
set_option maxRecDepth 100000 in
set_option maxHeartbeats 2000000 in
theorem mc_28 : lw_tbl[296]? = some (.code (mm_y 28) (mm_by 28) (mm_maxL 28) (mm_re 28)) := rfl
set_option maxRecDepth 100000 in
set_option maxHeartbeats 2000000 in
theorem mc_29 : lw_tbl[300]? = some (.code (mm_y 29) (mm_by 29) (mm_maxL 29) (mm_re 29)) := rfl
set_option maxRecDepth 100000 in
set_option maxHeartbeats 2000000 in
theorem mc_30 : lw_tbl[304]? = some (.code (mm_y 30) (mm_by 30) (mm_maxL 30) (mm_re 30)) := rfl
set_option maxRecDepth 100000 in
set_option maxHeartbeats 2000000 in
theorem mc_31 : lw_tbl[310]? = some (.code (mm_y 31) (mm_by 31) (mm_maxL 31) (mm_re 31)) := rfl
set_option maxRecDepth 100000 in
set_option maxHeartbeats 2000000 in
theorem mc_32 : lw_tbl[314]? = some (.code (mm_y 32) (mm_by 32) (mm_maxL 32) (mm_re 32)) := rfl
set_option maxRecDepth 100000 in
set_option maxHeartbeats 2000000 in
theorem mc_33 : lw_tbl[317]? = some (.code (mm_y 33) (mm_by 33) (mm_maxL 33) (mm_re 33)) := rfl
set_option maxRecDepth 100000 in
set_option maxHeartbeats 2000000 in
theorem mc_34 : lw_tbl[320]? = some (.code (mm_y 34) (mm_by 34) (mm_maxL 34) (mm_re 34)) := rfl
set_option maxRecDepth 100000 in
set_option maxHeartbeats 2000000 in
theorem mc_35 : lw_tbl[325]? = some (.code (mm_y 35) (mm_by 35) (mm_maxL 35) (mm_re 35)) := rfl
set_option maxRecDepth 100000 in
set_option maxHeartbeats 2000000 in
theorem mc_36 : lw_tbl[361]? = some (.code (mm_y 36) (mm_by 36) (mm_maxL 36) (mm_re 36)) := rfl
set_option maxRecDepth 100000 in
set_option maxHeartbeats 2000000 in
theorem mc_37 : lw_tbl[438]? = some (.code (mm_y 37) (mm_by 37) (mm_maxL 37) (mm_re 37)) := rfl
set_option maxRecDepth 100000 in
set_option maxHeartbeats 2000000 in
theorem mc_38 : lw_tbl[442]? = some (.code (mm_y 38) (mm_by 38) (mm_maxL 38) (mm_re 38)) := rfl
set_option maxRecDepth 100000 in
set_option maxHeartbeats 2000000 in
theorem mc_39 : lw_tbl[447]? = some (.code (mm_y 39) (mm_by 39) (mm_maxL 39) (mm_re 39)) := rfl
set_option maxRecDepth 100000 in
set_option maxHeartbeats 2000000 in
theorem mc_40 : lw_tbl[451]? = some (.code (mm_y 40) (mm_by 40) (mm_maxL 40) (mm_re 40)) := rfl
set_option maxRecDepth 100000 in
set_option maxHeartbeats 2000000 in
theorem mc_41 : lw_tbl[455]? = some (.code (mm_y 41) (mm_by 41) (mm_maxL 41) (mm_re 41)) := rfl
set_option maxRecDepth 100000 in
set_option maxHeartbeats 2000000 in
theorem mc_42 : lw_tbl[459]? = some (.code (mm_y 42) (mm_by 42) (mm_maxL 42) (mm_re 42)) := rfl
set_option maxRecDepth 100000 in
set_option maxHeartbeats 2000000 in
theorem mc_43 : lw_tbl[463]? = some (.code (mm_y 43) (mm_by 43) (mm_maxL 43) (mm_re 43)) := rfl
set_option maxRecDepth 100000 in
set_option maxHeartbeats 2000000 in
theorem mc_44 : lw_tbl[466]? = some (.code (mm_y 44) (mm_by 44) (mm_maxL 44) (mm_re 44)) := rfl
set_option maxRecDepth 100000 in
set_option maxHeartbeats 2000000 in
theorem mc_45 : lw_tbl[469]? = some (.code (mm_y 45) (mm_by 45) (mm_maxL 45) (mm_re 45)) := rfl
set_option maxRecDepth 100000 in
set_option maxHeartbeats 2000000 in
theorem mc_46 : lw_tbl[476]? = some (.code (mm_y 46) (mm_by 46) (mm_maxL 46) (mm_re 46)) := rfl
set_option maxRecDepth 100000 in
set_option maxHeartbeats 2000000 in
theorem mc_47 : lw_tbl[494]? = some (.code (mm_y 47) (mm_by 47) (mm_maxL 47) (mm_re 47)) := rfl
set_option maxRecDepth 100000 in
set_option maxHeartbeats 2000000 in
theorem mc_48 : lw_tbl[503]? = some (.code (mm_y 48) (mm_by 48) (mm_maxL 48) (mm_re 48)) := rfl
set_option maxRecDepth 100000 in
set_option maxHeartbeats 2000000 in
theorem mc_49 : lw_tbl[507]? = some (.code (mm_y 49) (mm_by 49) (mm_maxL 49) (mm_re 49)) := rfl
set_option maxRecDepth 100000 in
set_option maxHeartbeats 2000000 in
theorem mc_50 : lw_tbl[511]? = some (.code (mm_y 50) (mm_by 50) (mm_maxL 50) (mm_re 50)) := rfl
set_option maxRecDepth 100000 in
set_option maxHeartbeats 2000000 in
theorem mc_51 : lw_tbl[515]? = some (.code (mm_y 51) (mm_by 51) (mm_maxL 51) (mm_re 51)) := rfl
set_option maxRecDepth 100000 in
set_option maxHeartbeats 2000000 in
theorem mc_52 : lw_tbl[518]? = some (.code (mm_y 52) (mm_by 52) (mm_maxL 52) (mm_re 52)) := rfl
set_option maxRecDepth 100000 in
set_option maxHeartbeats 2000000 in
theorem mc_53 : lw_tbl[523]? = some (.code (mm_y 53) (mm_by 53) (mm_maxL 53) (mm_re 53)) := rfl
set_option maxRecDepth 100000 in
set_option maxHeartbeats 2000000 in
theorem mc_54 : lw_tbl[527]? = some (.code (mm_y 54) (mm_by 54) (mm_maxL 54) (mm_re 54)) := rfl
set_option maxRecDepth 100000 in
set_option maxHeartbeats 2000000 in
theorem mc_55 : lw_tbl[531]? = some (.code (mm_y 55) (mm_by 55) (mm_maxL 55) (mm_re 55)) := rfl
set_option maxRecDepth 100000 in
set_option maxHeartbeats 2000000 in
theorem mc_56 : lw_tbl[534]? = some (.code (mm_y 56) (mm_by 56) (mm_maxL 56) (mm_re 56)) := rfl
set_option maxRecDepth 100000 in
set_option maxHeartbeats 2000000 in
theorem mc_57 : lw_tbl[539]? = some (.code (mm_y 57) (mm_by 57) (mm_maxL 57) (mm_re 57)) := rfl
set_option maxRecDepth 100000 in
set_option maxHeartbeats 2000000 in
theorem mc_58 : lw_tbl[545]? = some (.code (mm_y 58) (mm_by 58) (mm_maxL 58) (mm_re 58)) := rfl
set_option maxRecDepth 100000 in
set_option maxHeartbeats 2000000 in
theorem mc_59 : lw_tbl[554]? = some (.code (mm_y 59) (mm_by 59) (mm_maxL 59) (mm_re 59)) := rfl
set_option maxRecDepth 100000 in
set_option maxHeartbeats 2000000 in
theorem mc_60 : lw_tbl[558]? = some (.code (mm_y 60) (mm_by 60) (mm_maxL 60) (mm_re 60)) := rfl
set_option maxRecDepth 100000 in
set_option maxHeartbeats 2000000 in
theorem mc_61 : lw_tbl[564]? = some (.code (mm_y 61) (mm_by 61) (mm_maxL 61) (mm_re 61)) := rfl
set_option maxRecDepth 100000 in
set_option maxHeartbeats 2000000 in
theorem mc_62 : lw_tbl[568]? = some (.code (mm_y 62) (mm_by 62) (mm_maxL 62) (mm_re 62)) := rfl
set_option maxRecDepth 100000 in
set_option maxHeartbeats 2000000 in
theorem mc_63 : lw_tbl[572]? = some (.code (mm_y 63) (mm_by 63) (mm_maxL 63) (mm_re 63)) := rfl
set_option maxRecDepth 100000 in
set_option maxHeartbeats 2000000 in
theorem mc_64 : lw_tbl[576]? = some (.code (mm_y 64) (mm_by 64) (mm_maxL 64) (mm_re 64)) := rfl
set_option maxRecDepth 100000 in
set_option maxHeartbeats 2000000 in
theorem mc_65 : lw_tbl[580]? = some (.code (mm_y 65) (mm_by 65) (mm_maxL 65) (mm_re 65)) := rfl
set_option maxRecDepth 100000 in
set_option maxHeartbeats 2000000 in
theorem mc_66 : lw_tbl[583]? = some (.code (mm_y 66) (mm_by 66) (mm_maxL 66) (mm_re 66)) := rfl
set_option maxRecDepth 100000 in
set_option maxHeartbeats 2000000 in
theorem mc_67 : lw_tbl[587]? = some (.code (mm_y 67) (mm_by 67) (mm_maxL 67) (mm_re 67)) := rfl
set_option maxRecDepth 100000 in
set_option maxHeartbeats 2000000 in
theorem mc_68 : lw_tbl[594]? = some (.code (mm_y 68) (mm_by 68) (mm_maxL 68) (mm_re 68)) := rfl
set_option maxRecDepth 100000 in
set_option maxHeartbeats 2000000 in
theorem mc_69 : lw_tbl[597]? = some (.code (mm_y 69) (mm_by 69) (mm_maxL 69) (mm_re 69)) := rfl
set_option maxRecDepth 100000 in
set_option maxHeartbeats 2000000 in
theorem mc_70 : lw_tbl[605]? = some (.code (mm_y 70) (mm_by 70) (mm_maxL 70) (mm_re 70)) := rfl
set_option maxRecDepth 100000 in
set_option maxHeartbeats 2000000 in
theorem mc_71 : lw_tbl[608]? = some (.code (mm_y 71) (mm_by 71) (mm_maxL 71) (mm_re 71)) := rfl
set_option maxRecDepth 100000 in
set_option maxHeartbeats 2000000 in
theorem mc_72 : lw_tbl[613]? = some (.code (mm_y 72) (mm_by 72) (mm_maxL 72) (mm_re 72)) := rfl
set_option maxRecDepth 100000 in
set_option maxHeartbeats 2000000 in
theorem mc_73 : lw_tbl[617]? = some (.code (mm_y 73) (mm_by 73) (mm_maxL 73) (mm_re 73)) := rfl
set_option maxRecDepth 100000 in
set_option maxHeartbeats 2000000 in
theorem mc_74 : lw_tbl[621]? = some (.code (mm_y 74) (mm_by 74) (mm_maxL 74) (mm_re 74)) := rfl
set_option maxRecDepth 100000 in
set_option maxHeartbeats 2000000 in
theorem mc_75 : lw_tbl[625]? = some (.code (mm_y 75) (mm_by 75) (mm_maxL 75) (mm_re 75)) := rfl
set_option maxRecDepth 100000 in
set_option maxHeartbeats 2000000 in
theorem mc_76 : lw_tbl[631]? = some (.code (mm_y 76) (mm_by 76) (mm_maxL 76) (mm_re 76)) := rfl
set_option maxRecDepth 100000 in
set_option maxHeartbeats 2000000 in
theorem mc_77 : lw_tbl[645]? = some (.code (mm_y 77) (mm_by 77) (mm_maxL 77) (mm_re 77)) := rfl
set_option maxRecDepth 100000 in
set_option maxHeartbeats 2000000 in
theorem mc_78 : lw_tbl[658]? = some (.code (mm_y 78) (mm_by 78) (mm_maxL 78) (mm_re 78)) := rfl
set_option maxRecDepth 100000 in
set_option maxHeartbeats 2000000 in
theorem mc_79 : lw_tbl[661]? = some (.code (mm_y 79) (mm_by 79) (mm_maxL 79) (mm_re 79)) := rfl
set_option maxRecDepth 100000 in
set_option maxHeartbeats 2000000 in
theorem mc_80 : lw_tbl[668]? = some (.code (mm_y 80) (mm_by 80) (mm_maxL 80) (mm_re 80)) := rfl
set_option maxRecDepth 100000 in
set_option maxHeartbeats 2000000 in
theorem mc_81 : lw_tbl[651]? = some (.code (mm_y 81) (mm_by 81) (mm_maxL 81) (mm_re 81)) := rfl
set_option maxRecDepth 100000 in
set_option maxHeartbeats 2000000 in
theorem mc_82 : lw_tbl[702]? = some (.code (mm_y 82) (mm_by 82) (mm_maxL 82) (mm_re 82)) := rfl
set_option maxRecDepth 100000 in
set_option maxHeartbeats 2000000 in
theorem mc_83 : lw_tbl[717]? = some (.code (mm_y 83) (mm_by 83) (mm_maxL 83) (mm_re 83)) := rfl
set_option maxRecDepth 100000 in
set_option maxHeartbeats 2000000 in
theorem mc_84 : lw_tbl[721]? = some (.code (mm_y 84) (mm_by 84) (mm_maxL 84) (mm_re 84)) := rfl
set_option maxRecDepth 100000 in
set_option maxHeartbeats 2000000 in
theorem mc_85 : lw_tbl[654]? = some (.code (mm_y 85) (mm_by 85) (mm_maxL 85) (mm_re 85)) := rfl
set_option maxRecDepth 100000 in
set_option maxHeartbeats 2000000 in
theorem mc_86 : lw_tbl[724]? = some (.code (mm_y 86) (mm_by 86) (mm_maxL 86) (mm_re 86)) := rfl
set_option maxRecDepth 100000 in
set_option maxHeartbeats 2000000 in
theorem mc_87 : lw_tbl[727]? = some (.code (mm_y 87) (mm_by 87) (mm_maxL 87) (mm_re 87)) := rfl
set_option maxRecDepth 100000 in
set_option maxHeartbeats 2000000 in
theorem mc_88 : lw_tbl[731]? = some (.code (mm_y 88) (mm_by 88) (mm_maxL 88) (mm_re 88)) := rfl
set_option maxRecDepth 100000 in
set_option maxHeartbeats 2000000 in
theorem mc_89 : lw_tbl[735]? = some (.code (mm_y 89) (mm_by 89) (mm_maxL 89) (mm_re 89)) := rfl
set_option maxRecDepth 100000 in
set_option maxHeartbeats 2000000 in
theorem mc_90 : lw_tbl[740]? = some (.code (mm_y 90) (mm_by 90) (mm_maxL 90) (mm_re 90)) := rfl
set_option maxRecDepth 100000 in
set_option maxHeartbeats 2000000 in
theorem mc_91 : lw_tbl[746]? = some (.code (mm_y 91) (mm_by 91) (mm_maxL 91) (mm_re 91)) := rfl
set_option maxRecDepth 100000 in
set_option maxHeartbeats 2000000 in
theorem mc_92 : lw_tbl[784]? = some (.code (mm_y 92) (mm_by 92) (mm_maxL 92) (mm_re 92)) := rfl
set_option maxRecDepth 100000 in
set_option maxHeartbeats 2000000 in
theorem mc_93 : lw_tbl[788]? = some (.code (mm_y 93) (mm_by 93) (mm_maxL 93) (mm_re 93)) := rfl
set_option maxRecDepth 100000 in
set_option maxHeartbeats 2000000 in
theorem mc_94 : lw_tbl[792]? = some (.code (mm_y 94) (mm_by 94) (mm_maxL 94) (mm_re 94)) := rfl
set_option maxRecDepth 100000 in
set_option maxHeartbeats 2000000 in
theorem mc_95 : lw_tbl[796]? = some (.code (mm_y 95) (mm_by 95) (mm_maxL 95) (mm_re 95)) := rfl
set_option maxRecDepth 100000 in
set_option maxHeartbeats 2000000 in
theorem mc_96 : lw_tbl[801]? = some (.code (mm_y 96) (mm_by 96) (mm_maxL 96) (mm_re 96)) := rfl
set_option maxRecDepth 100000 in
set_option maxHeartbeats 2000000 in
theorem mc_97 : lw_tbl[807]? = some (.code (mm_y 97) (mm_by 97) (mm_maxL 97) (mm_re 97)) := rfl
set_option maxRecDepth 100000 in
set_option maxHeartbeats 2000000 in
theorem mc_98 : lw_tbl[810]? = some (.code (mm_y 98) (mm_by 98) (mm_maxL 98) (mm_re 98)) := rfl
set_option maxRecDepth 100000 in
set_option maxHeartbeats 2000000 in
theorem mc_99 : lw_tbl[814]? = some (.code (mm_y 99) (mm_by 99) (mm_maxL 99) (mm_re 99)) := rfl
set_option maxRecDepth 100000 in
set_option maxHeartbeats 2000000 in
theorem mc_100 : lw_tbl[819]? = some (.code (mm_y 100) (mm_by 100) (mm_maxL 100) (mm_re 100)) := rfl
set_option maxRecDepth 100000 in
set_option maxHeartbeats 2000000 in
theorem mc_101 : lw_tbl[823]? = some (.code (mm_y 101) (mm_by 101) (mm_maxL 101) (mm_re 101)) := rfl
set_option maxRecDepth 100000 in
set_option maxHeartbeats 2000000 in
theorem mc_102 : lw_tbl[826]? = some (.code (mm_y 102) (mm_by 102) (mm_maxL 102) (mm_re 102)) := rfl
set_option maxRecDepth 100000 in
set_option maxHeartbeats 2000000 in
theorem mc_103 : lw_tbl[830]? = some (.code (mm_y 103) (mm_by 103) (mm_maxL 103) (mm_re 103)) := rfl
set_option maxRecDepth 100000 in
set_option maxHeartbeats 2000000 in
theorem mc_104 : lw_tbl[834]? = some (.code (mm_y 104) (mm_by 104) (mm_maxL 104) (mm_re 104)) := rfl
set_option maxRecDepth 100000 in
set_option maxHeartbeats 2000000 in
theorem mc_105 : lw_tbl[838]? = some (.code (mm_y 105) (mm_by 105) (mm_maxL 105) (mm_re 105)) := rfl
set_option maxRecDepth 100000 in
set_option maxHeartbeats 2000000 in
theorem mc_106 : lw_tbl[843]? = some (.code (mm_y 106) (mm_by 106) (mm_maxL 106) (mm_re 106)) := rfl
set_option maxRecDepth 100000 in
set_option maxHeartbeats 2000000 in
theorem mc_107 : lw_tbl[848]? = some (.code (mm_y 107) (mm_by 107) (mm_maxL 107) (mm_re 107)) := rfl
set_option maxRecDepth 100000 in
set_option maxHeartbeats 2000000 in
theorem mc_108 : lw_tbl[909]? = some (.code (mm_y 108) (mm_by 108) (mm_maxL 108) (mm_re 108)) := rfl
set_option maxRecDepth 100000 in
set_option maxHeartbeats 2000000 in
theorem mc_109 : lw_tbl[913]? = some (.code (mm_y 109) (mm_by 109) (mm_maxL 109) (mm_re 109)) := rfl
set_option maxRecDepth 100000 in
set_option maxHeartbeats 2000000 in
theorem mc_110 : lw_tbl[917]? = some (.code (mm_y 110) (mm_by 110) (mm_maxL 110) (mm_re 110)) := rfl
set_option maxRecDepth 100000 in
set_option maxHeartbeats 2000000 in
theorem mc_111 : lw_tbl[921]? = some (.code (mm_y 111) (mm_by 111) (mm_maxL 111) (mm_re 111)) := rfl
set_option maxRecDepth 100000 in
set_option maxHeartbeats 2000000 in
theorem mc_112 : lw_tbl[925]? = some (.code (mm_y 112) (mm_by 112) (mm_maxL 112) (mm_re 112)) := rfl
set_option maxRecDepth 100000 in
set_option maxHeartbeats 2000000 in
theorem mc_113 : lw_tbl[929]? = some (.code (mm_y 113) (mm_by 113) (mm_maxL 113) (mm_re 113)) := rfl
set_option maxRecDepth 100000 in
set_option maxHeartbeats 2000000 in
theorem mc_114 : lw_tbl[933]? = some (.code (mm_y 114) (mm_by 114) (mm_maxL 114) (mm_re 114)) := rfl
set_option maxRecDepth 100000 in
set_option maxHeartbeats 2000000 in
theorem mc_115 : lw_tbl[941]? = some (.code (mm_y 115) (mm_by 115) (mm_maxL 115) (mm_re 115)) := rfl
set_option maxRecDepth 100000 in
set_option maxHeartbeats 2000000 in
theorem mc_116 : lw_tbl[945]? = some (.code (mm_y 116) (mm_by 116) (mm_maxL 116) (mm_re 116)) := rfl
set_option maxRecDepth 100000 in
set_option maxHeartbeats 2000000 in
theorem mc_117 : lw_tbl[949]? = some (.code (mm_y 117) (mm_by 117) (mm_maxL 117) (mm_re 117)) := rfl
set_option maxRecDepth 100000 in
set_option maxHeartbeats 2000000 in
theorem mc_118 : lw_tbl[953]? = some (.code (mm_y 118) (mm_by 118) (mm_maxL 118) (mm_re 118)) := rfl
set_option maxRecDepth 100000 in
set_option maxHeartbeats 2000000 in
theorem mc_119 : lw_tbl[959]? = some (.code (mm_y 119) (mm_by 119) (mm_maxL 119) (mm_re 119)) := rfl
set_option maxRecDepth 100000 in
set_option maxHeartbeats 2000000 in
theorem mc_120 : lw_tbl[963]? = some (.code (mm_y 120) (mm_by 120) (mm_maxL 120) (mm_re 120)) := rfl
set_option maxRecDepth 100000 in
set_option maxHeartbeats 2000000 in
theorem mc_121 : lw_tbl[967]? = some (.code (mm_y 121) (mm_by 121) (mm_maxL 121) (mm_re 121)) := rfl
set_option maxRecDepth 100000 in
set_option maxHeartbeats 2000000 in
theorem mc_122 : lw_tbl[971]? = some (.code (mm_y 122) (mm_by 122) (mm_maxL 122) (mm_re 122)) := rfl
set_option maxRecDepth 100000 in
set_option maxHeartbeats 2000000 in
theorem mc_123 : lw_tbl[975]? = some (.code (mm_y 123) (mm_by 123) (mm_maxL 123) (mm_re 123)) := rfl
set_option maxRecDepth 100000 in
set_option maxHeartbeats 2000000 in
theorem mc_124 : lw_tbl[979]? = some (.code (mm_y 124) (mm_by 124) (mm_maxL 124) (mm_re 124)) := rfl
set_option maxRecDepth 100000 in
set_option maxHeartbeats 2000000 in
theorem mc_125 : lw_tbl[983]? = some (.code (mm_y 125) (mm_by 125) (mm_maxL 125) (mm_re 125)) := rfl
set_option maxRecDepth 100000 in
set_option maxHeartbeats 2000000 in
theorem mc_126 : lw_tbl[987]? = some (.code (mm_y 126) (mm_by 126) (mm_maxL 126) (mm_re 126)) := rfl
set_option maxRecDepth 100000 in
set_option maxHeartbeats 2000000 in
theorem mc_127 : lw_tbl[991]? = some (.code (mm_y 127) (mm_by 127) (mm_maxL 127) (mm_re 127)) := rfl
set_option maxRecDepth 100000 in
set_option maxHeartbeats 2000000 in
theorem mc_128 : lw_tbl[995]? = some (.code (mm_y 128) (mm_by 128) (mm_maxL 128) (mm_re 128)) := rfl
set_option maxRecDepth 100000 in
set_option maxHeartbeats 2000000 in
theorem mc_129 : lw_tbl[999]? = some (.code (mm_y 129) (mm_by 129) (mm_maxL 129) (mm_re 129)) := rfl
set_option maxRecDepth 100000 in
set_option maxHeartbeats 2000000 in
theorem mc_130 : lw_tbl[1003]? = some (.code (mm_y 130) (mm_by 130) (mm_maxL 130) (mm_re 130)) := rfl
set_option maxRecDepth 100000 in
set_option maxHeartbeats 2000000 in
theorem mc_131 : lw_tbl[1008]? = some (.code (mm_y 131) (mm_by 131) (mm_maxL 131) (mm_re 131)) := rfl
set_option maxRecDepth 100000 in
set_option maxHeartbeats 2000000 in
theorem mc_132 : lw_tbl[1015]? = some (.code (mm_y 132) (mm_by 132) (mm_maxL 132) (mm_re 132)) := rfl
set_option maxRecDepth 100000 in
set_option maxHeartbeats 2000000 in
theorem mc_133 : lw_tbl[1019]? = some (.code (mm_y 133) (mm_by 133) (mm_maxL 133) (mm_re 133)) := rfl
set_option maxRecDepth 100000 in
set_option maxHeartbeats 2000000 in
theorem mc_134 : lw_tbl[1023]? = some (.code (mm_y 134) (mm_by 134) (mm_maxL 134) (mm_re 134)) := rfl
set_option maxRecDepth 100000 in
set_option maxHeartbeats 2000000 in
theorem mc_135 : lw_tbl[1027]? = some (.code (mm_y 135) (mm_by 135) (mm_maxL 135) (mm_re 135)) := rfl
set_option maxRecDepth 100000 in
set_option maxHeartbeats 2000000 in
theorem mc_136 : lw_tbl[1031]? = some (.code (mm_y 136) (mm_by 136) (mm_maxL 136) (mm_re 136)) := rfl
set_option maxRecDepth 100000 in
set_option maxHeartbeats 2000000 in
theorem mc_137 : lw_tbl[1035]? = some (.code (mm_y 137) (mm_by 137) (mm_maxL 137) (mm_re 137)) := rfl
set_option maxRecDepth 100000 in
set_option maxHeartbeats 2000000 in
theorem mc_138 : lw_tbl[1051]? = some (.code (mm_y 138) (mm_by 138) (mm_maxL 138) (mm_re 138)) := rfl
set_option maxRecDepth 100000 in
set_option maxHeartbeats 2000000 in
theorem mc_139 : lw_tbl[1057]? = some (.code (mm_y 139) (mm_by 139) (mm_maxL 139) (mm_re 139)) := rfl
set_option maxRecDepth 100000 in
set_option maxHeartbeats 2000000 in
theorem mc_140 : lw_tbl[1061]? = some (.code (mm_y 140) (mm_by 140) (mm_maxL 140) (mm_re 140)) := rfl
set_option maxRecDepth 100000 in
set_option maxHeartbeats 2000000 in
theorem mc_141 : lw_tbl[1065]? = some (.code (mm_y 141) (mm_by 141) (mm_maxL 141) (mm_re 141)) := rfl
set_option maxRecDepth 100000 in
set_option maxHeartbeats 2000000 in
theorem mc_142 : lw_tbl[1069]? = some (.code (mm_y 142) (mm_by 142) (mm_maxL 142) (mm_re 142)) := rfl
set_option maxRecDepth 100000 in
set_option maxHeartbeats 2000000 in
theorem mc_143 : lw_tbl[1073]? = some (.code (mm_y 143) (mm_by 143) (mm_maxL 143) (mm_re 143)) := rfl
set_option maxRecDepth 100000 in
set_option maxHeartbeats 2000000 in
theorem mc_144 : lw_tbl[1077]? = some (.code (mm_y 144) (mm_by 144) (mm_maxL 144) (mm_re 144)) := rfl
set_option maxRecDepth 100000 in
set_option maxHeartbeats 2000000 in
theorem mc_145 : lw_tbl[1081]? = some (.code (mm_y 145) (mm_by 145) (mm_maxL 145) (mm_re 145)) := rfl
set_option maxRecDepth 100000 in
set_option maxHeartbeats 2000000 in
theorem mc_146 : lw_tbl[1085]? = some (.code (mm_y 146) (mm_by 146) (mm_maxL 146) (mm_re 146)) := rfl
set_option maxRecDepth 100000 in
set_option maxHeartbeats 2000000 in
theorem mc_147 : lw_tbl[1089]? = some (.code (mm_y 147) (mm_by 147) (mm_maxL 147) (mm_re 147)) := rfl
set_option maxRecDepth 100000 in
set_option maxHeartbeats 2000000 in
theorem mc_148 : lw_tbl[1093]? = some (.code (mm_y 148) (mm_by 148) (mm_maxL 148) (mm_re 148)) := rfl
set_option maxRecDepth 100000 in
set_option maxHeartbeats 2000000 in
theorem mc_149 : lw_tbl[1097]? = some (.code (mm_y 149) (mm_by 149) (mm_maxL 149) (mm_re 149)) := rfl
set_option maxRecDepth 100000 in
set_option maxHeartbeats 2000000 in
theorem mc_150 : lw_tbl[1101]? = some (.code (mm_y 150) (mm_by 150) (mm_maxL 150) (mm_re 150)) := rfl
set_option maxRecDepth 100000 in
set_option maxHeartbeats 2000000 in
theorem mc_151 : lw_tbl[1105]? = some (.code (mm_y 151) (mm_by 151) (mm_maxL 151) (mm_re 151)) := rfl
set_option maxRecDepth 100000 in
set_option maxHeartbeats 2000000 in
theorem mc_152 : lw_tbl[1109]? = some (.code (mm_y 152) (mm_by 152) (mm_maxL 152) (mm_re 152)) := rfl
set_option maxRecDepth 100000 in
set_option maxHeartbeats 2000000 in
theorem mc_153 : lw_tbl[1113]? = some (.code (mm_y 153) (mm_by 153) (mm_maxL 153) (mm_re 153)) := rfl
set_option maxRecDepth 100000 in
set_option maxHeartbeats 2000000 in
theorem mc_154 : lw_tbl[1116]? = some (.code (mm_y 154) (mm_by 154) (mm_maxL 154) (mm_re 154)) := rfl
set_option maxRecDepth 100000 in
set_option maxHeartbeats 2000000 in
theorem mc_155 : lw_tbl[1120]? = some (.code (mm_y 155) (mm_by 155) (mm_maxL 155) (mm_re 155)) := rfl
set_option maxRecDepth 100000 in
set_option maxHeartbeats 2000000 in
theorem mc_156 : lw_tbl[1124]? = some (.code (mm_y 156) (mm_by 156) (mm_maxL 156) (mm_re 156)) := rfl
set_option maxRecDepth 100000 in
set_option maxHeartbeats 2000000 in
theorem mc_157 : lw_tbl[1128]? = some (.code (mm_y 157) (mm_by 157) (mm_maxL 157) (mm_re 157)) := rfl
set_option maxRecDepth 100000 in
set_option maxHeartbeats 2000000 in
theorem mc_158 : lw_tbl[1132]? = some (.code (mm_y 158) (mm_by 158) (mm_maxL 158) (mm_re 158)) := rfl
set_option maxRecDepth 100000 in
set_option maxHeartbeats 2000000 in
theorem mc_159 : lw_tbl[1136]? = some (.code (mm_y 159) (mm_by 159) (mm_maxL 159) (mm_re 159)) := rfl
set_option maxRecDepth 100000 in
set_option maxHeartbeats 2000000 in
theorem mc_160 : lw_tbl[1140]? = some (.code (mm_y 160) (mm_by 160) (mm_maxL 160) (mm_re 160)) := rfl
set_option maxRecDepth 100000 in
set_option maxHeartbeats 2000000 in
theorem mc_161 : lw_tbl[1144]? = some (.code (mm_y 161) (mm_by 161) (mm_maxL 161) (mm_re 161)) := rfl
set_option maxRecDepth 100000 in
set_option maxHeartbeats 2000000 in
theorem mc_162 : lw_tbl[1148]? = some (.code (mm_y 162) (mm_by 162) (mm_maxL 162) (mm_re 162)) := rfl
set_option maxRecDepth 100000 in
set_option maxHeartbeats 2000000 in
theorem mc_163 : lw_tbl[1152]? = some (.code (mm_y 163) (mm_by 163) (mm_maxL 163) (mm_re 163)) := rfl
set_option maxRecDepth 100000 in
set_option maxHeartbeats 2000000 in
theorem mc_164 : lw_tbl[1156]? = some (.code (mm_y 164) (mm_by 164) (mm_maxL 164) (mm_re 164)) := rfl
set_option maxRecDepth 100000 in
set_option maxHeartbeats 2000000 in
theorem mc_165 : lw_tbl[1160]? = some (.code (mm_y 165) (mm_by 165) (mm_maxL 165) (mm_re 165)) := rfl
set_option maxRecDepth 100000 in
set_option maxHeartbeats 2000000 in
theorem mc_166 : lw_tbl[1164]? = some (.code (mm_y 166) (mm_by 166) (mm_maxL 166) (mm_re 166)) := rfl
set_option maxRecDepth 100000 in
set_option maxHeartbeats 2000000 in
theorem mc_167 : lw_tbl[1168]? = some (.code (mm_y 167) (mm_by 167) (mm_maxL 167) (mm_re 167)) := rfl
set_option maxRecDepth 100000 in
set_option maxHeartbeats 2000000 in
theorem mc_168 : lw_tbl[1172]? = some (.code (mm_y 168) (mm_by 168) (mm_maxL 168) (mm_re 168)) := rfl
set_option maxRecDepth 100000 in
set_option maxHeartbeats 2000000 in
theorem mc_169 : lw_tbl[1176]? = some (.code (mm_y 169) (mm_by 169) (mm_maxL 169) (mm_re 169)) := rfl
set_option maxRecDepth 100000 in
set_option maxHeartbeats 2000000 in
theorem mc_170 : lw_tbl[1182]? = some (.code (mm_y 170) (mm_by 170) (mm_maxL 170) (mm_re 170)) := rfl
set_option maxRecDepth 100000 in
set_option maxHeartbeats 2000000 in
theorem mc_171 : lw_tbl[754]? = some (.code (mm_y 171) (mm_by 171) (mm_maxL 171) (mm_re 171)) := rfl
set_option maxRecDepth 100000 in
set_option maxHeartbeats 2000000 in
theorem mc_172 : lw_tbl[778]? = some (.code (mm_y 172) (mm_by 172) (mm_maxL 172) (mm_re 172)) := rfl
def mm_cdP (m : Nat) : Prop := Cond.code (mm_y m) (mm_by m) (mm_maxL m) (mm_re m) ∈ lw_tbl
theorem mm_cd0 : ∀ a, a < 0 → mm_cdP a := lt_0
theorem mm_cd1 : ∀ a, a < 1 → mm_cdP a := lt_s mm_cd0 (List.mem_of_getElem? mc_0)
theorem mm_cd2 : ∀ a, a < 2 → mm_cdP a := lt_s mm_cd1 (List.mem_of_getElem? mc_1)
theorem mm_cd3 : ∀ a, a < 3 → mm_cdP a := lt_s mm_cd2 (List.mem_of_getElem? mc_2)
theorem mm_cd4 : ∀ a, a < 4 → mm_cdP a := lt_s mm_cd3 (List.mem_of_getElem? mc_3)
theorem mm_cd5 : ∀ a, a < 5 → mm_cdP a := lt_s mm_cd4 (List.mem_of_getElem? mc_4)
theorem mm_cd6 : ∀ a, a < 6 → mm_cdP a := lt_s mm_cd5 (List.mem_of_getElem? mc_5)
theorem mm_cd7 : ∀ a, a < 7 → mm_cdP a := lt_s mm_cd6 (List.mem_of_getElem? mc_6)
theorem mm_cd8 : ∀ a, a < 8 → mm_cdP a := lt_s mm_cd7 (List.mem_of_getElem? mc_7)
theorem mm_cd9 : ∀ a, a < 9 → mm_cdP a := lt_s mm_cd8 (List.mem_of_getElem? mc_8)
theorem mm_cd10 : ∀ a, a < 10 → mm_cdP a := lt_s mm_cd9 (List.mem_of_getElem? mc_9)
theorem mm_cd11 : ∀ a, a < 11 → mm_cdP a := lt_s mm_cd10 (List.mem_of_getElem? mc_10)
theorem mm_cd12 : ∀ a, a < 12 → mm_cdP a := lt_s mm_cd11 (List.mem_of_getElem? mc_11)
theorem mm_cd13 : ∀ a, a < 13 → mm_cdP a := lt_s mm_cd12 (List.mem_of_getElem? mc_12)
theorem mm_cd14 : ∀ a, a < 14 → mm_cdP a := lt_s mm_cd13 (List.mem_of_getElem? mc_13)
theorem mm_cd15 : ∀ a, a < 15 → mm_cdP a := lt_s mm_cd14 (List.mem_of_getElem? mc_14)
theorem mm_cd16 : ∀ a, a < 16 → mm_cdP a := lt_s mm_cd15 (List.mem_of_getElem? mc_15)
theorem mm_cd17 : ∀ a, a < 17 → mm_cdP a := lt_s mm_cd16 (List.mem_of_getElem? mc_16)
theorem mm_cd18 : ∀ a, a < 18 → mm_cdP a := lt_s mm_cd17 (List.mem_of_getElem? mc_17)
theorem mm_cd19 : ∀ a, a < 19 → mm_cdP a := lt_s mm_cd18 (List.mem_of_getElem? mc_18)
theorem mm_cd20 : ∀ a, a < 20 → mm_cdP a := lt_s mm_cd19 (List.mem_of_getElem? mc_19)
theorem mm_cd21 : ∀ a, a < 21 → mm_cdP a := lt_s mm_cd20 (List.mem_of_getElem? mc_20)
theorem mm_cd22 : ∀ a, a < 22 → mm_cdP a := lt_s mm_cd21 (List.mem_of_getElem? mc_21)
theorem mm_cd23 : ∀ a, a < 23 → mm_cdP a := lt_s mm_cd22 (List.mem_of_getElem? mc_22)
theorem mm_cd24 : ∀ a, a < 24 → mm_cdP a := lt_s mm_cd23 (List.mem_of_getElem? mc_23)
theorem mm_cd25 : ∀ a, a < 25 → mm_cdP a := lt_s mm_cd24 (List.mem_of_getElem? mc_24)
theorem mm_cd26 : ∀ a, a < 26 → mm_cdP a := lt_s mm_cd25 (List.mem_of_getElem? mc_25)
theorem mm_cd27 : ∀ a, a < 27 → mm_cdP a := lt_s mm_cd26 (List.mem_of_getElem? mc_26)
theorem mm_cd28 : ∀ a, a < 28 → mm_cdP a := lt_s mm_cd27 (List.mem_of_getElem? mc_27)
theorem mm_cd29 : ∀ a, a < 29 → mm_cdP a := lt_s mm_cd28 (List.mem_of_getElem? mc_28)
theorem mm_cd30 : ∀ a, a < 30 → mm_cdP a := lt_s mm_cd29 (List.mem_of_getElem? mc_29)
theorem mm_cd31 : ∀ a, a < 31 → mm_cdP a := lt_s mm_cd30 (List.mem_of_getElem? mc_30)
theorem mm_cd32 : ∀ a, a < 32 → mm_cdP a := lt_s mm_cd31 (List.mem_of_getElem? mc_31)
theorem mm_cd33 : ∀ a, a < 33 → mm_cdP a := lt_s mm_cd32 (List.mem_of_getElem? mc_32)
theorem mm_cd34 : ∀ a, a < 34 → mm_cdP a := lt_s mm_cd33 (List.mem_of_getElem? mc_33)
theorem mm_cd35 : ∀ a, a < 35 → mm_cdP a := lt_s mm_cd34 (List.mem_of_getElem? mc_34)
theorem mm_cd36 : ∀ a, a < 36 → mm_cdP a := lt_s mm_cd35 (List.mem_of_getElem? mc_35)
theorem mm_cd37 : ∀ a, a < 37 → mm_cdP a := lt_s mm_cd36 (List.mem_of_getElem? mc_36)
theorem mm_cd38 : ∀ a, a < 38 → mm_cdP a := lt_s mm_cd37 (List.mem_of_getElem? mc_37)
theorem mm_cd39 : ∀ a, a < 39 → mm_cdP a := lt_s mm_cd38 (List.mem_of_getElem? mc_38)
theorem mm_cd40 : ∀ a, a < 40 → mm_cdP a := lt_s mm_cd39 (List.mem_of_getElem? mc_39)
theorem mm_cd41 : ∀ a, a < 41 → mm_cdP a := lt_s mm_cd40 (List.mem_of_getElem? mc_40)
theorem mm_cd42 : ∀ a, a < 42 → mm_cdP a := lt_s mm_cd41 (List.mem_of_getElem? mc_41)
theorem mm_cd43 : ∀ a, a < 43 → mm_cdP a := lt_s mm_cd42 (List.mem_of_getElem? mc_42)
theorem mm_cd44 : ∀ a, a < 44 → mm_cdP a := lt_s mm_cd43 (List.mem_of_getElem? mc_43)
theorem mm_cd45 : ∀ a, a < 45 → mm_cdP a := lt_s mm_cd44 (List.mem_of_getElem? mc_44)
theorem mm_cd46 : ∀ a, a < 46 → mm_cdP a := lt_s mm_cd45 (List.mem_of_getElem? mc_45)
theorem mm_cd47 : ∀ a, a < 47 → mm_cdP a := lt_s mm_cd46 (List.mem_of_getElem? mc_46)
theorem mm_cd48 : ∀ a, a < 48 → mm_cdP a := lt_s mm_cd47 (List.mem_of_getElem? mc_47)
theorem mm_cd49 : ∀ a, a < 49 → mm_cdP a := lt_s mm_cd48 (List.mem_of_getElem? mc_48)
theorem mm_cd50 : ∀ a, a < 50 → mm_cdP a := lt_s mm_cd49 (List.mem_of_getElem? mc_49)
theorem mm_cd51 : ∀ a, a < 51 → mm_cdP a := lt_s mm_cd50 (List.mem_of_getElem? mc_50)
theorem mm_cd52 : ∀ a, a < 52 → mm_cdP a := lt_s mm_cd51 (List.mem_of_getElem? mc_51)
theorem mm_cd53 : ∀ a, a < 53 → mm_cdP a := lt_s mm_cd52 (List.mem_of_getElem? mc_52)
theorem mm_cd54 : ∀ a, a < 54 → mm_cdP a := lt_s mm_cd53 (List.mem_of_getElem? mc_53)
theorem mm_cd55 : ∀ a, a < 55 → mm_cdP a := lt_s mm_cd54 (List.mem_of_getElem? mc_54)
theorem mm_cd56 : ∀ a, a < 56 → mm_cdP a := lt_s mm_cd55 (List.mem_of_getElem? mc_55)
theorem mm_cd57 : ∀ a, a < 57 → mm_cdP a := lt_s mm_cd56 (List.mem_of_getElem? mc_56)
theorem mm_cd58 : ∀ a, a < 58 → mm_cdP a := lt_s mm_cd57 (List.mem_of_getElem? mc_57)
theorem mm_cd59 : ∀ a, a < 59 → mm_cdP a := lt_s mm_cd58 (List.mem_of_getElem? mc_58)
theorem mm_cd60 : ∀ a, a < 60 → mm_cdP a := lt_s mm_cd59 (List.mem_of_getElem? mc_59)
theorem mm_cd61 : ∀ a, a < 61 → mm_cdP a := lt_s mm_cd60 (List.mem_of_getElem? mc_60)
theorem mm_cd62 : ∀ a, a < 62 → mm_cdP a := lt_s mm_cd61 (List.mem_of_getElem? mc_61)
theorem mm_cd63 : ∀ a, a < 63 → mm_cdP a := lt_s mm_cd62 (List.mem_of_getElem? mc_62)
theorem mm_cd64 : ∀ a, a < 64 → mm_cdP a := lt_s mm_cd63 (List.mem_of_getElem? mc_63)
theorem mm_cd65 : ∀ a, a < 65 → mm_cdP a := lt_s mm_cd64 (List.mem_of_getElem? mc_64)
theorem mm_cd66 : ∀ a, a < 66 → mm_cdP a := lt_s mm_cd65 (List.mem_of_getElem? mc_65)
theorem mm_cd67 : ∀ a, a < 67 → mm_cdP a := lt_s mm_cd66 (List.mem_of_getElem? mc_66)
theorem mm_cd68 : ∀ a, a < 68 → mm_cdP a := lt_s mm_cd67 (List.mem_of_getElem? mc_67)
theorem mm_cd69 : ∀ a, a < 69 → mm_cdP a := lt_s mm_cd68 (List.mem_of_getElem? mc_68)
theorem mm_cd70 : ∀ a, a < 70 → mm_cdP a := lt_s mm_cd69 (List.mem_of_getElem? mc_69)
theorem mm_cd71 : ∀ a, a < 71 → mm_cdP a := lt_s mm_cd70 (List.mem_of_getElem? mc_70)
theorem mm_cd72 : ∀ a, a < 72 → mm_cdP a := lt_s mm_cd71 (List.mem_of_getElem? mc_71)
theorem mm_cd73 : ∀ a, a < 73 → mm_cdP a := lt_s mm_cd72 (List.mem_of_getElem? mc_72)
theorem mm_cd74 : ∀ a, a < 74 → mm_cdP a := lt_s mm_cd73 (List.mem_of_getElem? mc_73)
theorem mm_cd75 : ∀ a, a < 75 → mm_cdP a := lt_s mm_cd74 (List.mem_of_getElem? mc_74)
theorem mm_cd76 : ∀ a, a < 76 → mm_cdP a := lt_s mm_cd75 (List.mem_of_getElem? mc_75)
theorem mm_cd77 : ∀ a, a < 77 → mm_cdP a := lt_s mm_cd76 (List.mem_of_getElem? mc_76)
theorem mm_cd78 : ∀ a, a < 78 → mm_cdP a := lt_s mm_cd77 (List.mem_of_getElem? mc_77)
theorem mm_cd79 : ∀ a, a < 79 → mm_cdP a := lt_s mm_cd78 (List.mem_of_getElem? mc_78)
theorem mm_cd80 : ∀ a, a < 80 → mm_cdP a := lt_s mm_cd79 (List.mem_of_getElem? mc_79)
theorem mm_cd81 : ∀ a, a < 81 → mm_cdP a := lt_s mm_cd80 (List.mem_of_getElem? mc_80)
theorem mm_cd82 : ∀ a, a < 82 → mm_cdP a := lt_s mm_cd81 (List.mem_of_getElem? mc_81)
theorem mm_cd83 : ∀ a, a < 83 → mm_cdP a := lt_s mm_cd82 (List.mem_of_getElem? mc_82)
theorem mm_cd84 : ∀ a, a < 84 → mm_cdP a := lt_s mm_cd83 (List.mem_of_getElem? mc_83)
theorem mm_cd85 : ∀ a, a < 85 → mm_cdP a := lt_s mm_cd84 (List.mem_of_getElem? mc_84)
theorem mm_cd86 : ∀ a, a < 86 → mm_cdP a := lt_s mm_cd85 (List.mem_of_getElem? mc_85)
theorem mm_cd87 : ∀ a, a < 87 → mm_cdP a := lt_s mm_cd86 (List.mem_of_getElem? mc_86)
theorem mm_cd88 : ∀ a, a < 88 → mm_cdP a := lt_s mm_cd87 (List.mem_of_getElem? mc_87)
theorem mm_cd89 : ∀ a, a < 89 → mm_cdP a := lt_s mm_cd88 (List.mem_of_getElem? mc_88)
theorem mm_cd90 : ∀ a, a < 90 → mm_cdP a := lt_s mm_cd89 (List.mem_of_getElem? mc_89)
theorem mm_cd91 : ∀ a, a < 91 → mm_cdP a := lt_s mm_cd90 (List.mem_of_getElem? mc_90)
theorem mm_cd92 : ∀ a, a < 92 → mm_cdP a := lt_s mm_cd91 (List.mem_of_getElem? mc_91)
theorem mm_cd93 : ∀ a, a < 93 → mm_cdP a := lt_s mm_cd92 (List.mem_of_getElem? mc_92)
theorem mm_cd94 : ∀ a, a < 94 → mm_cdP a := lt_s mm_cd93 (List.mem_of_getElem? mc_93)
theorem mm_cd95 : ∀ a, a < 95 → mm_cdP a := lt_s mm_cd94 (List.mem_of_getElem? mc_94)
theorem mm_cd96 : ∀ a, a < 96 → mm_cdP a := lt_s mm_cd95 (List.mem_of_getElem? mc_95)
theorem mm_cd97 : ∀ a, a < 97 → mm_cdP a := lt_s mm_cd96 (List.mem_of_getElem? mc_96)
theorem mm_cd98 : ∀ a, a < 98 → mm_cdP a := lt_s mm_cd97 (List.mem_of_getElem? mc_97)
theorem mm_cd99 : ∀ a, a < 99 → mm_cdP a := lt_s mm_cd98 (List.mem_of_getElem? mc_98)
theorem mm_cd100 : ∀ a, a < 100 → mm_cdP a := lt_s mm_cd99 (List.mem_of_getElem? mc_99)
theorem mm_cd101 : ∀ a, a < 101 → mm_cdP a := lt_s mm_cd100 (List.mem_of_getElem? mc_100)
theorem mm_cd102 : ∀ a, a < 102 → mm_cdP a := lt_s mm_cd101 (List.mem_of_getElem? mc_101)
theorem mm_cd103 : ∀ a, a < 103 → mm_cdP a := lt_s mm_cd102 (List.mem_of_getElem? mc_102)
theorem mm_cd104 : ∀ a, a < 104 → mm_cdP a := lt_s mm_cd103 (List.mem_of_getElem? mc_103)
theorem mm_cd105 : ∀ a, a < 105 → mm_cdP a := lt_s mm_cd104 (List.mem_of_getElem? mc_104)
theorem mm_cd106 : ∀ a, a < 106 → mm_cdP a := lt_s mm_cd105 (List.mem_of_getElem? mc_105)
theorem mm_cd107 : ∀ a, a < 107 → mm_cdP a := lt_s mm_cd106 (List.mem_of_getElem? mc_106)
theorem mm_cd108 : ∀ a, a < 108 → mm_cdP a := lt_s mm_cd107 (List.mem_of_getElem? mc_107)
theorem mm_cd109 : ∀ a, a < 109 → mm_cdP a := lt_s mm_cd108 (List.mem_of_getElem? mc_108)
theorem mm_cd110 : ∀ a, a < 110 → mm_cdP a := lt_s mm_cd109 (List.mem_of_getElem? mc_109)
theorem mm_cd111 : ∀ a, a < 111 → mm_cdP a := lt_s mm_cd110 (List.mem_of_getElem? mc_110)
theorem mm_cd112 : ∀ a, a < 112 → mm_cdP a := lt_s mm_cd111 (List.mem_of_getElem? mc_111)
theorem mm_cd113 : ∀ a, a < 113 → mm_cdP a := lt_s mm_cd112 (List.mem_of_getElem? mc_112)
theorem mm_cd114 : ∀ a, a < 114 → mm_cdP a := lt_s mm_cd113 (List.mem_of_getElem? mc_113)
theorem mm_cd115 : ∀ a, a < 115 → mm_cdP a := lt_s mm_cd114 (List.mem_of_getElem? mc_114)
theorem mm_cd116 : ∀ a, a < 116 → mm_cdP a := lt_s mm_cd115 (List.mem_of_getElem? mc_115)
theorem mm_cd117 : ∀ a, a < 117 → mm_cdP a := lt_s mm_cd116 (List.mem_of_getElem? mc_116)
theorem mm_cd118 : ∀ a, a < 118 → mm_cdP a := lt_s mm_cd117 (List.mem_of_getElem? mc_117)
theorem mm_cd119 : ∀ a, a < 119 → mm_cdP a := lt_s mm_cd118 (List.mem_of_getElem? mc_118)
theorem mm_cd120 : ∀ a, a < 120 → mm_cdP a := lt_s mm_cd119 (List.mem_of_getElem? mc_119)
theorem mm_cd121 : ∀ a, a < 121 → mm_cdP a := lt_s mm_cd120 (List.mem_of_getElem? mc_120)
theorem mm_cd122 : ∀ a, a < 122 → mm_cdP a := lt_s mm_cd121 (List.mem_of_getElem? mc_121)
theorem mm_cd123 : ∀ a, a < 123 → mm_cdP a := lt_s mm_cd122 (List.mem_of_getElem? mc_122)
theorem mm_cd124 : ∀ a, a < 124 → mm_cdP a := lt_s mm_cd123 (List.mem_of_getElem? mc_123)
theorem mm_cd125 : ∀ a, a < 125 → mm_cdP a := lt_s mm_cd124 (List.mem_of_getElem? mc_124)
theorem mm_cd126 : ∀ a, a < 126 → mm_cdP a := lt_s mm_cd125 (List.mem_of_getElem? mc_125)
theorem mm_cd127 : ∀ a, a < 127 → mm_cdP a := lt_s mm_cd126 (List.mem_of_getElem? mc_126)
theorem mm_cd128 : ∀ a, a < 128 → mm_cdP a := lt_s mm_cd127 (List.mem_of_getElem? mc_127)
theorem mm_cd129 : ∀ a, a < 129 → mm_cdP a := lt_s mm_cd128 (List.mem_of_getElem? mc_128)
theorem mm_cd130 : ∀ a, a < 130 → mm_cdP a := lt_s mm_cd129 (List.mem_of_getElem? mc_129)
theorem mm_cd131 : ∀ a, a < 131 → mm_cdP a := lt_s mm_cd130 (List.mem_of_getElem? mc_130)
theorem mm_cd132 : ∀ a, a < 132 → mm_cdP a := lt_s mm_cd131 (List.mem_of_getElem? mc_131)
theorem mm_cd133 : ∀ a, a < 133 → mm_cdP a := lt_s mm_cd132 (List.mem_of_getElem? mc_132)
theorem mm_cd134 : ∀ a, a < 134 → mm_cdP a := lt_s mm_cd133 (List.mem_of_getElem? mc_133)
theorem mm_cd135 : ∀ a, a < 135 → mm_cdP a := lt_s mm_cd134 (List.mem_of_getElem? mc_134)
theorem mm_cd136 : ∀ a, a < 136 → mm_cdP a := lt_s mm_cd135 (List.mem_of_getElem? mc_135)
theorem mm_cd137 : ∀ a, a < 137 → mm_cdP a := lt_s mm_cd136 (List.mem_of_getElem? mc_136)
theorem mm_cd138 : ∀ a, a < 138 → mm_cdP a := lt_s mm_cd137 (List.mem_of_getElem? mc_137)
theorem mm_cd139 : ∀ a, a < 139 → mm_cdP a := lt_s mm_cd138 (List.mem_of_getElem? mc_138)
theorem mm_cd140 : ∀ a, a < 140 → mm_cdP a := lt_s mm_cd139 (List.mem_of_getElem? mc_139)
theorem mm_cd141 : ∀ a, a < 141 → mm_cdP a := lt_s mm_cd140 (List.mem_of_getElem? mc_140)
theorem mm_cd142 : ∀ a, a < 142 → mm_cdP a := lt_s mm_cd141 (List.mem_of_getElem? mc_141)
theorem mm_cd143 : ∀ a, a < 143 → mm_cdP a := lt_s mm_cd142 (List.mem_of_getElem? mc_142)
theorem mm_cd144 : ∀ a, a < 144 → mm_cdP a := lt_s mm_cd143 (List.mem_of_getElem? mc_143)
theorem mm_cd145 : ∀ a, a < 145 → mm_cdP a := lt_s mm_cd144 (List.mem_of_getElem? mc_144)
theorem mm_cd146 : ∀ a, a < 146 → mm_cdP a := lt_s mm_cd145 (List.mem_of_getElem? mc_145)
theorem mm_cd147 : ∀ a, a < 147 → mm_cdP a := lt_s mm_cd146 (List.mem_of_getElem? mc_146)
theorem mm_cd148 : ∀ a, a < 148 → mm_cdP a := lt_s mm_cd147 (List.mem_of_getElem? mc_147)
theorem mm_cd149 : ∀ a, a < 149 → mm_cdP a := lt_s mm_cd148 (List.mem_of_getElem? mc_148)
theorem mm_cd150 : ∀ a, a < 150 → mm_cdP a := lt_s mm_cd149 (List.mem_of_getElem? mc_149)
theorem mm_cd151 : ∀ a, a < 151 → mm_cdP a := lt_s mm_cd150 (List.mem_of_getElem? mc_150)
theorem mm_cd152 : ∀ a, a < 152 → mm_cdP a := lt_s mm_cd151 (List.mem_of_getElem? mc_151)
theorem mm_cd153 : ∀ a, a < 153 → mm_cdP a := lt_s mm_cd152 (List.mem_of_getElem? mc_152)
theorem mm_cd154 : ∀ a, a < 154 → mm_cdP a := lt_s mm_cd153 (List.mem_of_getElem? mc_153)
theorem mm_cd155 : ∀ a, a < 155 → mm_cdP a := lt_s mm_cd154 (List.mem_of_getElem? mc_154)
theorem mm_cd156 : ∀ a, a < 156 → mm_cdP a := lt_s mm_cd155 (List.mem_of_getElem? mc_155)
theorem mm_cd157 : ∀ a, a < 157 → mm_cdP a := lt_s mm_cd156 (List.mem_of_getElem? mc_156)
theorem mm_cd158 : ∀ a, a < 158 → mm_cdP a := lt_s mm_cd157 (List.mem_of_getElem? mc_157)
theorem mm_cd159 : ∀ a, a < 159 → mm_cdP a := lt_s mm_cd158 (List.mem_of_getElem? mc_158)
theorem mm_cd160 : ∀ a, a < 160 → mm_cdP a := lt_s mm_cd159 (List.mem_of_getElem? mc_159)
theorem mm_cd161 : ∀ a, a < 161 → mm_cdP a := lt_s mm_cd160 (List.mem_of_getElem? mc_160)
theorem mm_cd162 : ∀ a, a < 162 → mm_cdP a := lt_s mm_cd161 (List.mem_of_getElem? mc_161)
theorem mm_cd163 : ∀ a, a < 163 → mm_cdP a := lt_s mm_cd162 (List.mem_of_getElem? mc_162)
theorem mm_cd164 : ∀ a, a < 164 → mm_cdP a := lt_s mm_cd163 (List.mem_of_getElem? mc_163)
theorem mm_cd165 : ∀ a, a < 165 → mm_cdP a := lt_s mm_cd164 (List.mem_of_getElem? mc_164)
theorem mm_cd166 : ∀ a, a < 166 → mm_cdP a := lt_s mm_cd165 (List.mem_of_getElem? mc_165)
theorem mm_cd167 : ∀ a, a < 167 → mm_cdP a := lt_s mm_cd166 (List.mem_of_getElem? mc_166)
theorem mm_cd168 : ∀ a, a < 168 → mm_cdP a := lt_s mm_cd167 (List.mem_of_getElem? mc_167)
theorem mm_cd169 : ∀ a, a < 169 → mm_cdP a := lt_s mm_cd168 (List.mem_of_getElem? mc_168)
theorem mm_cd170 : ∀ a, a < 170 → mm_cdP a := lt_s mm_cd169 (List.mem_of_getElem? mc_169)
theorem mm_cd171 : ∀ a, a < 171 → mm_cdP a := lt_s mm_cd170 (List.mem_of_getElem? mc_170)
theorem mm_cd172 : ∀ a, a < 172 → mm_cdP a := lt_s mm_cd171 (List.mem_of_getElem? mc_171)
theorem mm_cd173 : ∀ a, a < 173 → mm_cdP a := lt_s mm_cd172 (List.mem_of_getElem? mc_172)
