theorem zj_0_0 : 0 < zk_n 0 := by decide
theorem zj_0_1 : 1 < zk_n 0 := by decide
theorem zj_0_2 : 2 < zk_n 0 := by decide
theorem zj_0_3 : 3 < zk_n 0 := by decide
theorem zj_0_4 : 4 < zk_n 0 := by decide
theorem zj_0_5 : 5 < zk_n 0 := by decide
theorem zj_0_6 : 6 < zk_n 0 := by decide
theorem zj_0_7 : 7 < zk_n 0 := by decide
theorem zj_0_8 : 8 < zk_n 0 := by decide
theorem zj_0_9 : 9 < zk_n 0 := by decide
theorem zj_0_10 : 10 < zk_n 0 := by decide
theorem zj_0_11 : 11 < zk_n 0 := by decide
theorem zj_3_0 : 0 < zk_n 3 := by decide
theorem zj_3_1 : 1 < zk_n 3 := by decide
theorem zj_3_2 : 2 < zk_n 3 := by decide
theorem zj_3_3 : 3 < zk_n 3 := by decide
theorem zj_3_4 : 4 < zk_n 3 := by decide
theorem zj_3_5 : 5 < zk_n 3 := by decide
theorem zj_3_6 : 6 < zk_n 3 := by decide
theorem zj_3_7 : 7 < zk_n 3 := by decide
theorem zj_3_8 : 8 < zk_n 3 := by decide
theorem zj_3_9 : 9 < zk_n 3 := by decide
theorem zj_3_10 : 10 < zk_n 3 := by decide
theorem zj_3_11 : 11 < zk_n 3 := by decide
theorem zj_3_12 : 12 < zk_n 3 := by decide
theorem zj_3_13 : 13 < zk_n 3 := by decide
theorem zj_3_14 : 14 < zk_n 3 := by decide
theorem zj_12_0 : 0 < zk_n 12 := by decide
theorem zj_12_1 : 1 < zk_n 12 := by decide
theorem zj_12_2 : 2 < zk_n 12 := by decide
theorem zj_12_3 : 3 < zk_n 12 := by decide
theorem zj_12_4 : 4 < zk_n 12 := by decide
theorem zj_12_5 : 5 < zk_n 12 := by decide
theorem zj_12_6 : 6 < zk_n 12 := by decide
theorem zj_12_7 : 7 < zk_n 12 := by decide
theorem zj_12_8 : 8 < zk_n 12 := by decide
theorem zj_12_9 : 9 < zk_n 12 := by decide
theorem zj_12_10 : 10 < zk_n 12 := by decide
theorem zj_12_11 : 11 < zk_n 12 := by decide
theorem zj_12_12 : 12 < zk_n 12 := by decide
theorem zj_12_13 : 13 < zk_n 12 := by decide
theorem zj_12_14 : 14 < zk_n 12 := by decide
theorem zj_21_0 : 0 < zk_n 21 := by decide
theorem zj_21_1 : 1 < zk_n 21 := by decide
theorem zj_21_2 : 2 < zk_n 21 := by decide
theorem zj_21_3 : 3 < zk_n 21 := by decide
theorem zj_21_4 : 4 < zk_n 21 := by decide
theorem zj_21_5 : 5 < zk_n 21 := by decide
theorem zj_21_6 : 6 < zk_n 21 := by decide
theorem zj_21_7 : 7 < zk_n 21 := by decide
theorem zj_21_8 : 8 < zk_n 21 := by decide
theorem zj_21_9 : 9 < zk_n 21 := by decide
theorem zj_21_10 : 10 < zk_n 21 := by decide
theorem zj_21_11 : 11 < zk_n 21 := by decide
theorem zj_21_12 : 12 < zk_n 21 := by decide
theorem zj_21_13 : 13 < zk_n 21 := by decide
theorem zj_21_14 : 14 < zk_n 21 := by decide
theorem zj_30_0 : 0 < zk_n 30 := by decide
theorem zj_30_1 : 1 < zk_n 30 := by decide
theorem zj_30_2 : 2 < zk_n 30 := by decide
theorem zj_30_3 : 3 < zk_n 30 := by decide
theorem zj_30_4 : 4 < zk_n 30 := by decide
theorem zj_30_5 : 5 < zk_n 30 := by decide
theorem zj_30_6 : 6 < zk_n 30 := by decide
theorem zj_31_0 : 0 < zk_n 31 := by decide
theorem zj_31_1 : 1 < zk_n 31 := by decide
theorem zj_31_2 : 2 < zk_n 31 := by decide
theorem zj_31_3 : 3 < zk_n 31 := by decide
theorem zj_31_4 : 4 < zk_n 31 := by decide
theorem zj_31_5 : 5 < zk_n 31 := by decide
theorem zj_31_6 : 6 < zk_n 31 := by decide
theorem zj_31_7 : 7 < zk_n 31 := by decide
theorem zj_31_8 : 8 < zk_n 31 := by decide
theorem zj_31_9 : 9 < zk_n 31 := by decide
theorem zj_31_10 : 10 < zk_n 31 := by decide
theorem zj_31_11 : 11 < zk_n 31 := by decide
theorem zj_31_12 : 12 < zk_n 31 := by decide
theorem zj_31_13 : 13 < zk_n 31 := by decide
theorem zj_31_14 : 14 < zk_n 31 := by decide
theorem zj_42_0 : 0 < zk_n 42 := by decide
theorem zj_42_1 : 1 < zk_n 42 := by decide
theorem zj_42_2 : 2 < zk_n 42 := by decide
theorem zj_42_3 : 3 < zk_n 42 := by decide
theorem zj_42_4 : 4 < zk_n 42 := by decide
theorem zj_42_5 : 5 < zk_n 42 := by decide
theorem zj_42_6 : 6 < zk_n 42 := by decide
theorem zj_42_7 : 7 < zk_n 42 := by decide
theorem zj_42_8 : 8 < zk_n 42 := by decide
theorem zj_42_9 : 9 < zk_n 42 := by decide
theorem zj_42_10 : 10 < zk_n 42 := by decide
theorem zj_42_11 : 11 < zk_n 42 := by decide
theorem zj_42_12 : 12 < zk_n 42 := by decide
theorem zj_42_13 : 13 < zk_n 42 := by decide
theorem zj_42_14 : 14 < zk_n 42 := by decide
theorem zj_42_15 : 15 < zk_n 42 := by decide
theorem zj_42_16 : 16 < zk_n 42 := by decide
theorem zj_42_17 : 17 < zk_n 42 := by decide
theorem zj_42_18 : 18 < zk_n 42 := by decide
theorem zj_60_0 : 0 < zk_n 60 := by decide
theorem zj_60_1 : 1 < zk_n 60 := by decide
theorem zj_60_2 : 2 < zk_n 60 := by decide
theorem zj_60_3 : 3 < zk_n 60 := by decide
theorem zj_60_4 : 4 < zk_n 60 := by decide
theorem zj_60_5 : 5 < zk_n 60 := by decide
theorem zj_60_6 : 6 < zk_n 60 := by decide
theorem zj_60_7 : 7 < zk_n 60 := by decide
theorem zj_60_8 : 8 < zk_n 60 := by decide
theorem zj_60_9 : 9 < zk_n 60 := by decide
theorem zj_60_10 : 10 < zk_n 60 := by decide
theorem zj_60_11 : 11 < zk_n 60 := by decide
theorem zj_60_12 : 12 < zk_n 60 := by decide
theorem zj_60_13 : 13 < zk_n 60 := by decide
theorem zj_68_0 : 0 < zk_n 68 := by decide
theorem zj_68_1 : 1 < zk_n 68 := by decide
theorem zj_68_2 : 2 < zk_n 68 := by decide
theorem zj_72_0 : 0 < zk_n 72 := by decide
theorem zj_72_1 : 1 < zk_n 72 := by decide
theorem zj_72_2 : 2 < zk_n 72 := by decide
theorem zj_72_3 : 3 < zk_n 72 := by decide
theorem zj_72_4 : 4 < zk_n 72 := by decide
theorem zj_72_5 : 5 < zk_n 72 := by decide
theorem zj_73_0 : 0 < zk_n 73 := by decide
theorem zj_73_1 : 1 < zk_n 73 := by decide
theorem zj_73_2 : 2 < zk_n 73 := by decide
theorem zj_73_3 : 3 < zk_n 73 := by decide
theorem zj_76_0 : 0 < zk_n 76 := by decide
theorem zj_76_1 : 1 < zk_n 76 := by decide
theorem zj_76_2 : 2 < zk_n 76 := by decide
theorem zj_76_3 : 3 < zk_n 76 := by decide
theorem zj_76_4 : 4 < zk_n 76 := by decide
theorem zj_76_5 : 5 < zk_n 76 := by decide
theorem zj_76_6 : 6 < zk_n 76 := by decide
theorem zj_76_7 : 7 < zk_n 76 := by decide
theorem zj_76_8 : 8 < zk_n 76 := by decide
theorem zj_76_9 : 9 < zk_n 76 := by decide
theorem zj_76_10 : 10 < zk_n 76 := by decide
theorem zj_76_11 : 11 < zk_n 76 := by decide
theorem zj_76_12 : 12 < zk_n 76 := by decide
theorem zj_76_13 : 13 < zk_n 76 := by decide
theorem zj_76_14 : 14 < zk_n 76 := by decide
theorem zj_76_15 : 15 < zk_n 76 := by decide
theorem zj_76_16 : 16 < zk_n 76 := by decide
theorem zj_76_17 : 17 < zk_n 76 := by decide
theorem zj_76_18 : 18 < zk_n 76 := by decide
theorem zj_76_19 : 19 < zk_n 76 := by decide
theorem zj_76_20 : 20 < zk_n 76 := by decide
theorem zj_76_21 : 21 < zk_n 76 := by decide
theorem zj_76_22 : 22 < zk_n 76 := by decide
theorem zj_76_23 : 23 < zk_n 76 := by decide
theorem zj_76_24 : 24 < zk_n 76 := by decide
theorem zj_76_25 : 25 < zk_n 76 := by decide
theorem zj_76_26 : 26 < zk_n 76 := by decide
theorem zj_76_27 : 27 < zk_n 76 := by decide
theorem zj_76_28 : 28 < zk_n 76 := by decide
theorem zj_76_29 : 29 < zk_n 76 := by decide
theorem zj_76_30 : 30 < zk_n 76 := by decide
theorem zj_76_31 : 31 < zk_n 76 := by decide
theorem zj_76_32 : 32 < zk_n 76 := by decide
theorem zj_76_33 : 33 < zk_n 76 := by decide
theorem zj_76_34 : 34 < zk_n 76 := by decide
theorem zj_76_35 : 35 < zk_n 76 := by decide
theorem zj_76_36 : 36 < zk_n 76 := by decide
theorem zj_76_37 : 37 < zk_n 76 := by decide
theorem zj_76_38 : 38 < zk_n 76 := by decide
theorem zj_76_39 : 39 < zk_n 76 := by decide
theorem zj_76_40 : 40 < zk_n 76 := by decide
theorem c9_0 : 0 < 9 := by decide
theorem c9_1 : 1 < 9 := by decide
theorem c9_2 : 2 < 9 := by decide
theorem c9_3 : 3 < 9 := by decide
theorem c9_4 : 4 < 9 := by decide
theorem c9_5 : 5 < 9 := by decide
theorem c9_6 : 6 < 9 := by decide
theorem c9_7 : 7 < 9 := by decide
theorem c9_8 : 8 < 9 := by decide
theorem zi_b_m30 : (Int8.ofInt (-30)).toInt32 = (-30 : Int32) := by decide
theorem zi_b_m11 : (Int8.ofInt (-11)).toInt32 = (-11 : Int32) := by decide
theorem zi_b_m10 : (Int8.ofInt (-10)).toInt32 = (-10 : Int32) := by decide
theorem zi_b_m6 : (Int8.ofInt (-6)).toInt32 = (-6 : Int32) := by decide
theorem zi_b_m5 : (Int8.ofInt (-5)).toInt32 = (-5 : Int32) := by decide
theorem zi_b_m4 : (Int8.ofInt (-4)).toInt32 = (-4 : Int32) := by decide
theorem zi_b_m3 : (Int8.ofInt (-3)).toInt32 = (-3 : Int32) := by decide
theorem zi_b_m2 : (Int8.ofInt (-2)).toInt32 = (-2 : Int32) := by decide
theorem zi_b_6 : (Int8.ofInt 6).toInt32 = (nI 6) := by decide
theorem zi_b_7 : (Int8.ofInt 7).toInt32 = (nI 7) := by decide
theorem zi_b_8 : (Int8.ofInt 8).toInt32 = (nI 8) := by decide
theorem zi_b_9 : (Int8.ofInt 9).toInt32 = (nI 9) := by decide
theorem zi_b_10 : (Int8.ofInt 10).toInt32 = (nI 10) := by decide
theorem zi_b_12 : (Int8.ofInt 12).toInt32 = (nI 12) := by decide
theorem zi_b_14 : (Int8.ofInt 14).toInt32 = (nI 14) := by decide
theorem zi_b_15 : (Int8.ofInt 15).toInt32 = (nI 15) := by decide
theorem zi_b_16 : (Int8.ofInt 16).toInt32 = (nI 16) := by decide
theorem zi_b_18 : (Int8.ofInt 18).toInt32 = (nI 18) := by decide
theorem zi_b_20 : (Int8.ofInt 20).toInt32 = (nI 20) := by decide
theorem zi_b_21 : (Int8.ofInt 21).toInt32 = (nI 21) := by decide
theorem zi_b_22 : (Int8.ofInt 22).toInt32 = (nI 22) := by decide
theorem zi_b_23 : (Int8.ofInt 23).toInt32 = (nI 23) := by decide
theorem zi_b_24 : (Int8.ofInt 24).toInt32 = (nI 24) := by decide
theorem zi_b_25 : (Int8.ofInt 25).toInt32 = (nI 25) := by decide
theorem zi_b_29 : (Int8.ofInt 29).toInt32 = (nI 29) := by decide
theorem zi_b_30 : (Int8.ofInt 30).toInt32 = (nI 30) := by decide
theorem zi_b_31 : (Int8.ofInt 31).toInt32 = (nI 31) := by decide
theorem zi_b_32 : (Int8.ofInt 32).toInt32 = (nI 32) := by decide
theorem zi_b_33 : (Int8.ofInt 33).toInt32 = (nI 33) := by decide
theorem zi_b_34 : (Int8.ofInt 34).toInt32 = (nI 34) := by decide
theorem zi_b_35 : (Int8.ofInt 35).toInt32 = (nI 35) := by decide
theorem zi_b_36 : (Int8.ofInt 36).toInt32 = (nI 36) := by decide
theorem zi_b_37 : (Int8.ofInt 37).toInt32 = (nI 37) := by decide
theorem zi_b_38 : (Int8.ofInt 38).toInt32 = (nI 38) := by decide
theorem zi_b_39 : (Int8.ofInt 39).toInt32 = (nI 39) := by decide
theorem zi_b_40 : (Int8.ofInt 40).toInt32 = (nI 40) := by decide
theorem zi_b_41 : (Int8.ofInt 41).toInt32 = (nI 41) := by decide
theorem zi_b_43 : (Int8.ofInt 43).toInt32 = (nI 43) := by decide
theorem zi_b_44 : (Int8.ofInt 44).toInt32 = (nI 44) := by decide
theorem zi_b_48 : (Int8.ofInt 48).toInt32 = (nI 48) := by decide
theorem zi_b_57 : (Int8.ofInt 57).toInt32 = (nI 57) := by decide
theorem zi_b_63 : (Int8.ofInt 63).toInt32 = (nI 63) := by decide
theorem zi_b_64 : (Int8.ofInt 64).toInt32 = (nI 64) := by decide
theorem zi_b_65 : (Int8.ofInt 65).toInt32 = (nI 65) := by decide
theorem zi_b_97 : (Int8.ofInt 97).toInt32 = (nI 97) := by decide
theorem zi_b_100 : (Int8.ofInt 100).toInt32 = (nI 100) := by decide
theorem zi_b_122 : (Int8.ofInt 122).toInt32 = (nI 122) := by decide
theorem zi_b_127 : (Int8.ofInt 127).toInt32 = (nI 127) := by decide
theorem zi_i_m1 : Int32.ofInt (-1) = (-1 : Int32) := by decide
theorem zi_i_0 : Int32.ofInt 0 = (0 : Int32) := by decide
theorem zi_i_1 : Int32.ofInt 1 = (1 : Int32) := by decide
theorem zi_i_2 : Int32.ofInt 2 = (nI 2) := by decide
theorem zi_i_3 : Int32.ofInt 3 = (nI 3) := by decide
theorem zi_i_4 : Int32.ofInt 4 = (nI 4) := by decide
theorem zi_i_5 : Int32.ofInt 5 = (nI 5) := by decide
theorem zi_l_0 : Int64.ofNat ((0 : Fin 2) : Nat) = (0 : Int64) := by decide
theorem zi_l_1 : Int64.ofNat ((1 : Fin 2) : Nat) = (1 : Int64) := by decide
theorem zi_s_189 : (Int16.ofInt 189).toInt32 = (nI 189) := by decide
theorem zi_s_200 : (Int16.ofInt 200).toInt32 = (nI 200) := by decide
theorem zi_s_232 : (Int16.ofInt 232).toInt32 = (nI 232) := by decide
theorem zi_s_254 : (Int16.ofInt 254).toInt32 = (nI 254) := by decide
theorem zi_s_255 : (Int16.ofInt 255).toInt32 = (nI 255) := by decide
theorem zi_s_300 : (Int16.ofInt 300).toInt32 = (nI 300) := by decide
theorem zi_s_499 : (Int16.ofInt 499).toInt32 = (nI 499) := by decide
theorem zi_s_512 : (Int16.ofInt 512).toInt32 = (nI 512) := by decide
theorem zi_s_900 : (Int16.ofInt 900).toInt32 = (nI 900) := by decide
theorem zi_s_1000 : (Int16.ofInt 1000).toInt32 = (nI 1000) := by decide
theorem zi_s_1001 : (Int16.ofInt 1001).toInt32 = (nI 1001) := by decide
theorem zi_s_1002 : (Int16.ofInt 1002).toInt32 = (nI 1002) := by decide
theorem zi_s_1100 : (Int16.ofInt 1100).toInt32 = (nI 1100) := by decide
theorem zi_s_1101 : (Int16.ofInt 1101).toInt32 = (nI 1101) := by decide
theorem zi_s_1102 : (Int16.ofInt 1102).toInt32 = (nI 1102) := by decide
theorem zi_s_1103 : (Int16.ofInt 1103).toInt32 = (nI 1103) := by decide
theorem zi_s_1104 : (Int16.ofInt 1104).toInt32 = (nI 1104) := by decide
theorem zi_s_1105 : (Int16.ofInt 1105).toInt32 = (nI 1105) := by decide
theorem zi_s_1106 : (Int16.ofInt 1106).toInt32 = (nI 1106) := by decide
theorem zi_s_1107 : (Int16.ofInt 1107).toInt32 = (nI 1107) := by decide
theorem zi_s_1108 : (Int16.ofInt 1108).toInt32 = (nI 1108) := by decide
theorem zi_s_1109 : (Int16.ofInt 1109).toInt32 = (nI 1109) := by decide
theorem zi_s_1110 : (Int16.ofInt 1110).toInt32 = (nI 1110) := by decide
theorem zi_s_1111 : (Int16.ofInt 1111).toInt32 = (nI 1111) := by decide
theorem zi_s_1155 : (Int16.ofInt 1155).toInt32 = (nI 1155) := by decide
theorem zi_s_1200 : (Int16.ofInt 1200).toInt32 = (nI 1200) := by decide
theorem zi_s_1201 : (Int16.ofInt 1201).toInt32 = (nI 1201) := by decide
theorem zi_s_1202 : (Int16.ofInt 1202).toInt32 = (nI 1202) := by decide
theorem zi_s_1203 : (Int16.ofInt 1203).toInt32 = (nI 1203) := by decide
theorem zi_s_1204 : (Int16.ofInt 1204).toInt32 = (nI 1204) := by decide
theorem zi_s_1205 : (Int16.ofInt 1205).toInt32 = (nI 1205) := by decide
theorem zi_s_1206 : (Int16.ofInt 1206).toInt32 = (nI 1206) := by decide
theorem zi_s_1207 : (Int16.ofInt 1207).toInt32 = (nI 1207) := by decide
theorem zi_s_1208 : (Int16.ofInt 1208).toInt32 = (nI 1208) := by decide
theorem zi_s_1209 : (Int16.ofInt 1209).toInt32 = (nI 1209) := by decide
theorem zi_s_1210 : (Int16.ofInt 1210).toInt32 = (nI 1210) := by decide
theorem zi_s_1211 : (Int16.ofInt 1211).toInt32 = (nI 1211) := by decide
theorem zi_s_1212 : (Int16.ofInt 1212).toInt32 = (nI 1212) := by decide
theorem zi_s_1213 : (Int16.ofInt 1213).toInt32 = (nI 1213) := by decide
theorem zi_s_1215 : (Int16.ofInt 1215).toInt32 = (nI 1215) := by decide
theorem zi_s_1216 : (Int16.ofInt 1216).toInt32 = (nI 1216) := by decide
theorem zi_s_3000 : (Int16.ofInt 3000).toInt32 = (nI 3000) := by decide
theorem zi_s_3001 : (Int16.ofInt 3001).toInt32 = (nI 3001) := by decide
theorem zi_s_3002 : (Int16.ofInt 3002).toInt32 = (nI 3002) := by decide
theorem zi_s_3003 : (Int16.ofInt 3003).toInt32 = (nI 3003) := by decide
theorem zi_s_3004 : (Int16.ofInt 3004).toInt32 = (nI 3004) := by decide
theorem zi_s_3005 : (Int16.ofInt 3005).toInt32 = (nI 3005) := by decide
theorem zi_s_3006 : (Int16.ofInt 3006).toInt32 = (nI 3006) := by decide
theorem zi_s_3007 : (Int16.ofInt 3007).toInt32 = (nI 3007) := by decide
theorem zi_s_3008 : (Int16.ofInt 3008).toInt32 = (nI 3008) := by decide
theorem zi_s_12345 : (Int16.ofInt 12345).toInt32 = (nI 12345) := by decide
