theorem wac_int : Cond.arrayClass .int ∈ zw_T := zw_t1 120 (by decide +kernel) (by decide +kernel)
theorem wac_byte : Cond.arrayClass .byte ∈ zw_T := zw_t1 118 (by decide +kernel) (by decide +kernel)
theorem wac_boolean : Cond.arrayClass .boolean ∈ zw_T := zw_t1 119 (by decide +kernel) (by decide +kernel)
theorem wac_long : Cond.arrayClass .long ∈ zw_T := zw_t2 47 (by decide +kernel) (by decide +kernel)
theorem wcl_Lw_7 : Cond.classLink RLw 7 RX7 ∈ zw_T := zw_t1 19 (by decide +kernel) (by decide +kernel)
theorem wcl_X7_17 : Cond.classLink RX7 17 RX5 ∈ zw_T := zw_t1 27 (by decide +kernel) (by decide +kernel)
theorem wcl_X7_24 : Cond.classLink RX7 24 RX3 ∈ zw_T := zw_t1 121 (by decide +kernel) (by decide +kernel)
theorem wcl_X3_9 : Cond.classLink RX3 9 RX5 ∈ zw_T := zw_t1 127 (by decide +kernel) (by decide +kernel)
theorem wcl_X7_31 : Cond.classLink RX7 31 RX4 ∈ zw_T := zw_t1 154 (by decide +kernel) (by decide +kernel)
theorem wcl_X7_40 : Cond.classLink RX7 40 RX0 ∈ zw_T := zw_t1 219 (by decide +kernel) (by decide +kernel)
theorem wcl_X7_49 : Cond.classLink RX7 49 RX6 ∈ zw_T := zw_t2 31 (by decide +kernel) (by decide +kernel)
theorem wcl_X7_56 : Cond.classLink RX7 56 RX1 ∈ zw_T := zw_t2 48 (by decide +kernel) (by decide +kernel)
theorem wcl_X7_65 : Cond.classLink RX7 65 RX2 ∈ zw_T := zw_t2 75 (by decide +kernel) (by decide +kernel)
theorem wcl_Lw_10 : Cond.classLink RLw 10 RX8 ∈ zw_T := zw_t5 175 (by decide +kernel) (by decide +kernel)
theorem win_0 : Cond.instantiable RX0 14 ∈ zw_T := zw_t1 220 (by decide +kernel) (by decide +kernel)
theorem wit_0 : Cond.initialized RX0 ∈ zw_T := zw_t1 6 (by decide +kernel) (by decide +kernel)
theorem win_1 : Cond.instantiable RX1 6 ∈ zw_T := zw_t2 49 (by decide +kernel) (by decide +kernel)
theorem wit_1 : Cond.initialized RX1 ∈ zw_T := zw_t1 8 (by decide +kernel) (by decide +kernel)
theorem win_2 : Cond.instantiable RX2 4 ∈ zw_T := zw_t2 76 (by decide +kernel) (by decide +kernel)
theorem wit_2 : Cond.initialized RX2 ∈ zw_T := zw_t1 9 (by decide +kernel) (by decide +kernel)
theorem win_3 : Cond.instantiable RX3 7 ∈ zw_T := zw_t1 122 (by decide +kernel) (by decide +kernel)
theorem wit_3 : Cond.initialized RX3 ∈ zw_T := zw_t1 4 (by decide +kernel) (by decide +kernel)
theorem win_4 : Cond.instantiable RX4 19 ∈ zw_T := zw_t1 155 (by decide +kernel) (by decide +kernel)
theorem wit_4 : Cond.initialized RX4 ∈ zw_T := zw_t1 5 (by decide +kernel) (by decide +kernel)
theorem win_5 : Cond.instantiable RX5 15 ∈ zw_T := zw_t1 28 (by decide +kernel) (by decide +kernel)
theorem wit_5 : Cond.initialized RX5 ∈ zw_T := zw_t1 2 (by decide +kernel) (by decide +kernel)
theorem win_6 : Cond.instantiable RX6 3 ∈ zw_T := zw_t2 32 (by decide +kernel) (by decide +kernel)
theorem wit_6 : Cond.initialized RX6 ∈ zw_T := zw_t1 7 (by decide +kernel) (by decide +kernel)
theorem win_7 : Cond.instantiable RX7 12 ∈ zw_T := zw_t1 20 (by decide +kernel) (by decide +kernel)
theorem wit_7 : Cond.initialized RX7 ∈ zw_T := zw_t1 1 (by decide +kernel) (by decide +kernel)
theorem win_8 : Cond.instantiable RX8 41 ∈ zw_T := zw_t5 176 (by decide +kernel) (by decide +kernel)
theorem wit_8 : Cond.initialized RX8 ∈ zw_T := zw_t1 10 (by decide +kernel) (by decide +kernel)
theorem wo_i : Cond.instanceMethod objectInit ∈ zw_T := zw_t1 25 (by decide +kernel) (by decide +kernel)
theorem wo_c : Cond.code objectInit ⟨#[0xb1]⟩ 1 none ∈ zw_T := zw_t1 26 (by decide +kernel) (by decide +kernel)
theorem wo_X7_1 : Cond.methodLink RX7 1 objectInit ∈ zw_T := zw_t1 24 (by decide +kernel) (by decide +kernel)
theorem wo_X0_3 : Cond.methodLink RX0 3 objectInit ∈ zw_T := zw_t1 224 (by decide +kernel) (by decide +kernel)
theorem wo_X1_3 : Cond.methodLink RX1 3 objectInit ∈ zw_T := zw_t2 53 (by decide +kernel) (by decide +kernel)
theorem wo_X2_3 : Cond.methodLink RX2 3 objectInit ∈ zw_T := zw_t2 80 (by decide +kernel) (by decide +kernel)
theorem wo_X3_3 : Cond.methodLink RX3 3 objectInit ∈ zw_T := zw_t1 126 (by decide +kernel) (by decide +kernel)
theorem wo_X4_3 : Cond.methodLink RX4 3 objectInit ∈ zw_T := zw_t1 159 (by decide +kernel) (by decide +kernel)
theorem wo_X5_3 : Cond.methodLink RX5 3 objectInit ∈ zw_T := zw_t1 32 (by decide +kernel) (by decide +kernel)
theorem wo_X6_3 : Cond.methodLink RX6 3 objectInit ∈ zw_T := zw_t2 36 (by decide +kernel) (by decide +kernel)
theorem wmi_Lw_9 : Cond.methodLink RLw 9 yX7_init ∈ zw_T := zw_t1 21 (by decide +kernel) (by decide +kernel)
theorem wmi_Lw_12 : Cond.methodLink RLw 12 yX8_init ∈ zw_T := zw_t5 177 (by decide +kernel) (by decide +kernel)
theorem wo_X8_7 : Cond.methodLink RX8 7 objectInit ∈ zw_T := zw_t5 180 (by decide +kernel) (by decide +kernel)
theorem wii_0 : Cond.instanceMethod yX0_init ∈ zw_T := zw_t1 222 (by decide +kernel) (by decide +kernel)
theorem wii_1 : Cond.instanceMethod yX1_init ∈ zw_T := zw_t2 51 (by decide +kernel) (by decide +kernel)
theorem wii_2 : Cond.instanceMethod yX2_init ∈ zw_T := zw_t2 78 (by decide +kernel) (by decide +kernel)
theorem wii_3 : Cond.instanceMethod yX3_init ∈ zw_T := zw_t1 124 (by decide +kernel) (by decide +kernel)
theorem wii_4 : Cond.instanceMethod yX4_init ∈ zw_T := zw_t1 157 (by decide +kernel) (by decide +kernel)
theorem wii_5 : Cond.instanceMethod yX5_init ∈ zw_T := zw_t1 30 (by decide +kernel) (by decide +kernel)
theorem wii_6 : Cond.instanceMethod yX6_init ∈ zw_T := zw_t2 34 (by decide +kernel) (by decide +kernel)
theorem wii_7 : Cond.instanceMethod yX7_init ∈ zw_T := zw_t1 22 (by decide +kernel) (by decide +kernel)
theorem wii_8 : Cond.instanceMethod yX8_init ∈ zw_T := zw_t5 178 (by decide +kernel) (by decide +kernel)
theorem wff_X7_9 : zf_f RX7 9 7 0 := ⟨RX7, TX7, 12, .array .byte, rfl, by decide, zw_t2 95 (by decide +kernel) (by decide +kernel), rfl, rfl, by decide +kernel, fun _ => ⟨rfl, rfl⟩⟩
theorem wff_X7_13 : zf_f RX7 13 7 11 := ⟨RX7, TX7, 12, .array .boolean, rfl, by decide, zw_t2 106 (by decide +kernel) (by decide +kernel), rfl, rfl, by decide +kernel, fun _ => ⟨rfl, rfl⟩⟩
theorem wff_X7_20 : zf_f RX7 20 7 2 := ⟨RX7, TX7, 12, .object "RingSign$Society", rfl, by decide, zw_t2 97 (by decide +kernel) (by decide +kernel), rfl, rfl, by decide +kernel, fun _ => ⟨rfl, rfl⟩⟩
theorem wff_X7_27 : zf_f RX7 27 7 3 := ⟨RX7, TX7, 12, .object "RingSign$Reader", rfl, by decide, zw_t2 98 (by decide +kernel) (by decide +kernel), rfl, rfl, by decide +kernel, fun _ => ⟨rfl, rfl⟩⟩
theorem wff_X7_36 : zf_f RX7 36 7 4 := ⟨RX7, TX7, 12, .object "RingSign$Rings", rfl, by decide, zw_t2 99 (by decide +kernel) (by decide +kernel), rfl, rfl, by decide +kernel, fun _ => ⟨rfl, rfl⟩⟩
theorem wff_X7_45 : zf_f RX7 45 7 5 := ⟨RX7, TX7, 12, .object "RingSign$Bonds", rfl, by decide, zw_t2 100 (by decide +kernel) (by decide +kernel), rfl, rfl, by decide +kernel, fun _ => ⟨rfl, rfl⟩⟩
theorem wff_X7_52 : zf_f RX7 52 7 8 := ⟨RX7, TX7, 12, .object "RingSign$Trays", rfl, by decide, zw_t2 103 (by decide +kernel) (by decide +kernel), rfl, rfl, by decide +kernel, fun _ => ⟨rfl, rfl⟩⟩
theorem wff_X7_61 : zf_f RX7 61 7 6 := ⟨RX7, TX7, 12, .object "RingSign$Deeds", rfl, by decide, zw_t2 101 (by decide +kernel) (by decide +kernel), rfl, rfl, by decide +kernel, fun _ => ⟨rfl, rfl⟩⟩
theorem wff_X7_68 : zf_f RX7 68 7 7 := ⟨RX7, TX7, 12, .object "RingSign$Past", rfl, by decide, zw_t2 102 (by decide +kernel) (by decide +kernel), rfl, rfl, by decide +kernel, fun _ => ⟨rfl, rfl⟩⟩
theorem wff_X7_72 : zf_f RX7 72 7 9 := ⟨RX7, TX7, 12, .object "RingSign$Society", rfl, by decide, zw_t2 104 (by decide +kernel) (by decide +kernel), rfl, rfl, by decide +kernel, fun _ => ⟨rfl, rfl⟩⟩
theorem wff_X7_75 : zf_f RX7 75 7 10 := ⟨RX7, TX7, 12, .object "RingSign$Society", rfl, by decide, zw_t2 105 (by decide +kernel) (by decide +kernel), rfl, rfl, by decide +kernel, fun _ => ⟨rfl, rfl⟩⟩
theorem wff_X0_9 : zf_f RX0 9 0 2 := ⟨RX0, TX0, 14, .array .int, rfl, by decide, zw_t1 227 (by decide +kernel) (by decide +kernel), rfl, rfl, by decide +kernel, fun _ => ⟨rfl, rfl⟩⟩
theorem wff_X0_15 : zf_f RX0 15 0 3 := ⟨RX0, TX0, 14, .array .int, rfl, by decide, zw_t1 228 (by decide +kernel) (by decide +kernel), rfl, rfl, by decide +kernel, fun _ => ⟨rfl, rfl⟩⟩
theorem wff_X0_18 : zf_f RX0 18 0 5 := ⟨RX0, TX0, 14, .array .int, rfl, by decide, zw_t1 230 (by decide +kernel) (by decide +kernel), rfl, rfl, by decide +kernel, fun _ => ⟨rfl, rfl⟩⟩
theorem wff_X0_21 : zf_f RX0 21 0 6 := ⟨RX0, TX0, 14, .array .int, rfl, by decide, zw_t1 232 (by decide +kernel) (by decide +kernel), rfl, rfl, by decide +kernel, fun _ => ⟨rfl, rfl⟩⟩
theorem wff_X0_24 : zf_f RX0 24 0 7 := ⟨RX0, TX0, 14, .array .int, rfl, by decide, zw_t1 233 (by decide +kernel) (by decide +kernel), rfl, rfl, by decide +kernel, fun _ => ⟨rfl, rfl⟩⟩
theorem wff_X0_27 : zf_f RX0 27 0 11 := ⟨RX0, TX0, 14, .array .int, rfl, by decide, zw_t1 238 (by decide +kernel) (by decide +kernel), rfl, rfl, by decide +kernel, fun _ => ⟨rfl, rfl⟩⟩
theorem wff_X0_30 : zf_f RX0 30 0 13 := ⟨RX0, TX0, 14, .array .int, rfl, by decide, zw_t2 1 (by decide +kernel) (by decide +kernel), rfl, rfl, by decide +kernel, fun _ => ⟨rfl, rfl⟩⟩
theorem wff_X0_33 : zf_f RX0 33 0 0 := ⟨RX0, TX0, 14, .object "RingSign$Society", rfl, by decide, zw_t1 225 (by decide +kernel) (by decide +kernel), rfl, rfl, by decide +kernel, fun _ => ⟨rfl, rfl⟩⟩
theorem wff_X0_37 : zf_f RX0 37 0 1 := ⟨RX0, TX0, 14, .object "RingSign$Rings", rfl, by decide, zw_t1 226 (by decide +kernel) (by decide +kernel), rfl, rfl, by decide +kernel, fun _ => ⟨rfl, rfl⟩⟩
theorem wff_X1_9 : zf_f RX1 9 1 0 := ⟨RX1, TX1, 6, .object "RingSign$Society", rfl, by decide, zw_t2 54 (by decide +kernel) (by decide +kernel), rfl, rfl, by decide +kernel, fun _ => ⟨rfl, rfl⟩⟩
theorem wff_X1_15 : zf_f RX1 15 1 1 := ⟨RX1, TX1, 6, .object "RingSign$Bonds", rfl, by decide, zw_t2 55 (by decide +kernel) (by decide +kernel), rfl, rfl, by decide +kernel, fun _ => ⟨rfl, rfl⟩⟩
theorem wff_X1_19 : zf_f RX1 19 1 2 := ⟨RX1, TX1, 6, .object "RingSign$Trays", rfl, by decide, zw_t2 56 (by decide +kernel) (by decide +kernel), rfl, rfl, by decide +kernel, fun _ => ⟨rfl, rfl⟩⟩
theorem wff_X2_11 : zf_f RX2 11 2 1 := ⟨RX2, TX2, 4, .array .int, rfl, by decide, zw_t2 82 (by decide +kernel) (by decide +kernel), rfl, rfl, by decide +kernel, fun _ => ⟨rfl, rfl⟩⟩
theorem wff_X2_15 : zf_f RX2 15 2 2 := ⟨RX2, TX2, 4, .array .int, rfl, by decide, zw_t2 83 (by decide +kernel) (by decide +kernel), rfl, rfl, by decide +kernel, fun _ => ⟨rfl, rfl⟩⟩
theorem wff_X2_18 : zf_f RX2 18 2 0 := ⟨RX2, TX2, 4, .object "RingSign$Society", rfl, by decide, zw_t2 81 (by decide +kernel) (by decide +kernel), rfl, rfl, by decide +kernel, fun _ => ⟨rfl, rfl⟩⟩
theorem wff_X3_12 : zf_f RX3 12 3 0 := ⟨RX3, TX3, 7, .object "RingSign$Society", rfl, by decide, zw_t1 129 (by decide +kernel) (by decide +kernel), rfl, rfl, by decide +kernel, fun _ => ⟨rfl, rfl⟩⟩
theorem wff_X3_22 : zf_f RX3 22 3 3 := ⟨RX3, TX3, 7, .array .int, rfl, by decide, zw_t1 135 (by decide +kernel) (by decide +kernel), rfl, rfl, by decide +kernel, fun _ => ⟨rfl, rfl⟩⟩
theorem wff_X3_26 : zf_f RX3 26 3 4 := ⟨RX3, TX3, 7, .array .int, rfl, by decide, zw_t1 136 (by decide +kernel) (by decide +kernel), rfl, rfl, by decide +kernel, fun _ => ⟨rfl, rfl⟩⟩
theorem wff_X4_9 : zf_f RX4 9 4 1 := ⟨RX4, TX4, 19, .array .int, rfl, by decide, zw_t1 161 (by decide +kernel) (by decide +kernel), rfl, rfl, by decide +kernel, fun _ => ⟨rfl, rfl⟩⟩
theorem wff_X4_15 : zf_f RX4 15 4 2 := ⟨RX4, TX4, 19, .array .int, rfl, by decide, zw_t1 162 (by decide +kernel) (by decide +kernel), rfl, rfl, by decide +kernel, fun _ => ⟨rfl, rfl⟩⟩
theorem wff_X4_18 : zf_f RX4 18 4 3 := ⟨RX4, TX4, 19, .array .int, rfl, by decide, zw_t1 163 (by decide +kernel) (by decide +kernel), rfl, rfl, by decide +kernel, fun _ => ⟨rfl, rfl⟩⟩
theorem wff_X4_21 : zf_f RX4 21 4 4 := ⟨RX4, TX4, 19, .array .int, rfl, by decide, zw_t1 164 (by decide +kernel) (by decide +kernel), rfl, rfl, by decide +kernel, fun _ => ⟨rfl, rfl⟩⟩
theorem wff_X4_24 : zf_f RX4 24 4 5 := ⟨RX4, TX4, 19, .array .int, rfl, by decide, zw_t1 165 (by decide +kernel) (by decide +kernel), rfl, rfl, by decide +kernel, fun _ => ⟨rfl, rfl⟩⟩
theorem wff_X4_27 : zf_f RX4 27 4 6 := ⟨RX4, TX4, 19, .array .int, rfl, by decide, zw_t1 166 (by decide +kernel) (by decide +kernel), rfl, rfl, by decide +kernel, fun _ => ⟨rfl, rfl⟩⟩
theorem wff_X4_30 : zf_f RX4 30 4 7 := ⟨RX4, TX4, 19, .array .int, rfl, by decide, zw_t1 167 (by decide +kernel) (by decide +kernel), rfl, rfl, by decide +kernel, fun _ => ⟨rfl, rfl⟩⟩
theorem wff_X4_33 : zf_f RX4 33 4 8 := ⟨RX4, TX4, 19, .array .boolean, rfl, by decide, zw_t1 168 (by decide +kernel) (by decide +kernel), rfl, rfl, by decide +kernel, fun _ => ⟨rfl, rfl⟩⟩
theorem wff_X4_37 : zf_f RX4 37 4 9 := ⟨RX4, TX4, 19, .array .int, rfl, by decide, zw_t1 169 (by decide +kernel) (by decide +kernel), rfl, rfl, by decide +kernel, fun _ => ⟨rfl, rfl⟩⟩
theorem wff_X4_40 : zf_f RX4 40 4 10 := ⟨RX4, TX4, 19, .array .int, rfl, by decide, zw_t1 170 (by decide +kernel) (by decide +kernel), rfl, rfl, by decide +kernel, fun _ => ⟨rfl, rfl⟩⟩
theorem wff_X4_43 : zf_f RX4 43 4 11 := ⟨RX4, TX4, 19, .array .int, rfl, by decide, zw_t1 172 (by decide +kernel) (by decide +kernel), rfl, rfl, by decide +kernel, fun _ => ⟨rfl, rfl⟩⟩
theorem wff_X4_46 : zf_f RX4 46 4 12 := ⟨RX4, TX4, 19, .array .int, rfl, by decide, zw_t1 173 (by decide +kernel) (by decide +kernel), rfl, rfl, by decide +kernel, fun _ => ⟨rfl, rfl⟩⟩
theorem wff_X4_49 : zf_f RX4 49 4 13 := ⟨RX4, TX4, 19, .array .int, rfl, by decide, zw_t1 174 (by decide +kernel) (by decide +kernel), rfl, rfl, by decide +kernel, fun _ => ⟨rfl, rfl⟩⟩
theorem wff_X4_52 : zf_f RX4 52 4 15 := ⟨RX4, TX4, 19, .array .int, rfl, by decide, zw_t1 176 (by decide +kernel) (by decide +kernel), rfl, rfl, by decide +kernel, fun _ => ⟨rfl, rfl⟩⟩
theorem wff_X4_55 : zf_f RX4 55 4 16 := ⟨RX4, TX4, 19, .array .int, rfl, by decide, zw_t1 177 (by decide +kernel) (by decide +kernel), rfl, rfl, by decide +kernel, fun _ => ⟨rfl, rfl⟩⟩
theorem wff_X4_58 : zf_f RX4 58 4 17 := ⟨RX4, TX4, 19, .array .int, rfl, by decide, zw_t1 178 (by decide +kernel) (by decide +kernel), rfl, rfl, by decide +kernel, fun _ => ⟨rfl, rfl⟩⟩
theorem wff_X4_61 : zf_f RX4 61 4 18 := ⟨RX4, TX4, 19, .array .int, rfl, by decide, zw_t1 179 (by decide +kernel) (by decide +kernel), rfl, rfl, by decide +kernel, fun _ => ⟨rfl, rfl⟩⟩
theorem wff_X4_64 : zf_f RX4 64 4 0 := ⟨RX4, TX4, 19, .object "RingSign$Society", rfl, by decide, zw_t1 160 (by decide +kernel) (by decide +kernel), rfl, rfl, by decide +kernel, fun _ => ⟨rfl, rfl⟩⟩
theorem wff_X5_9 : zf_f RX5 9 5 2 := ⟨RX5, TX5, 15, .array .int, rfl, by decide, zw_t1 44 (by decide +kernel) (by decide +kernel), rfl, rfl, by decide +kernel, fun _ => ⟨rfl, rfl⟩⟩
theorem wff_X5_15 : zf_f RX5 15 5 3 := ⟨RX5, TX5, 15, .array .int, rfl, by decide, zw_t1 50 (by decide +kernel) (by decide +kernel), rfl, rfl, by decide +kernel, fun _ => ⟨rfl, rfl⟩⟩
theorem wff_X5_18 : zf_f RX5 18 5 4 := ⟨RX5, TX5, 15, .array .int, rfl, by decide, zw_t1 55 (by decide +kernel) (by decide +kernel), rfl, rfl, by decide +kernel, fun _ => ⟨rfl, rfl⟩⟩
theorem wff_X5_21 : zf_f RX5 21 5 5 := ⟨RX5, TX5, 15, .array .int, rfl, by decide, zw_t1 59 (by decide +kernel) (by decide +kernel), rfl, rfl, by decide +kernel, fun _ => ⟨rfl, rfl⟩⟩
theorem wff_X5_24 : zf_f RX5 24 5 6 := ⟨RX5, TX5, 15, .array .int, rfl, by decide, zw_t1 62 (by decide +kernel) (by decide +kernel), rfl, rfl, by decide +kernel, fun _ => ⟨rfl, rfl⟩⟩
theorem wff_X5_27 : zf_f RX5 27 5 7 := ⟨RX5, TX5, 15, .array .int, rfl, by decide, zw_t1 67 (by decide +kernel) (by decide +kernel), rfl, rfl, by decide +kernel, fun _ => ⟨rfl, rfl⟩⟩
theorem wff_X5_30 : zf_f RX5 30 5 13 := ⟨RX5, TX5, 15, .array .int, rfl, by decide, zw_t1 84 (by decide +kernel) (by decide +kernel), rfl, rfl, by decide +kernel, fun _ => ⟨rfl, rfl⟩⟩
theorem wff_X5_33 : zf_f RX5 33 5 14 := ⟨RX5, TX5, 15, .array .int, rfl, by decide, zw_t1 86 (by decide +kernel) (by decide +kernel), rfl, rfl, by decide +kernel, fun _ => ⟨rfl, rfl⟩⟩
theorem wff_X6_9 : zf_f RX6 9 6 0 := ⟨RX6, TX6, 3, .array .int, rfl, by decide, zw_t2 37 (by decide +kernel) (by decide +kernel), rfl, rfl, by decide +kernel, fun _ => ⟨rfl, rfl⟩⟩
theorem wff_X6_15 : zf_f RX6 15 6 1 := ⟨RX6, TX6, 3, .array .int, rfl, by decide, zw_t2 38 (by decide +kernel) (by decide +kernel), rfl, rfl, by decide +kernel, fun _ => ⟨rfl, rfl⟩⟩
theorem wff_X6_18 : zf_f RX6 18 6 2 := ⟨RX6, TX6, 3, .array .long, rfl, by decide, zw_t2 39 (by decide +kernel) (by decide +kernel), rfl, rfl, by decide +kernel, fun _ => ⟨rfl, rfl⟩⟩
theorem wff_X8_13 : zf_f RX8 13 8 1 := ⟨RX8, TX8, 41, .array .int, rfl, by decide, zw_t5 185 (by decide +kernel) (by decide +kernel), rfl, rfl, by decide +kernel, fun _ => ⟨rfl, rfl⟩⟩
theorem wff_X8_17 : zf_f RX8 17 8 2 := ⟨RX8, TX8, 41, .array .boolean, rfl, by decide, zw_t5 186 (by decide +kernel) (by decide +kernel), rfl, rfl, by decide +kernel, fun _ => ⟨rfl, rfl⟩⟩
theorem wff_X8_21 : zf_f RX8 21 8 3 := ⟨RX8, TX8, 41, .array .int, rfl, by decide, zw_t5 187 (by decide +kernel) (by decide +kernel), rfl, rfl, by decide +kernel, fun _ => ⟨rfl, rfl⟩⟩
theorem wff_X8_24 : zf_f RX8 24 8 4 := ⟨RX8, TX8, 41, .array .int, rfl, by decide, zw_t5 188 (by decide +kernel) (by decide +kernel), rfl, rfl, by decide +kernel, fun _ => ⟨rfl, rfl⟩⟩
theorem wff_X8_30 : zf_f RX8 30 8 16 := ⟨RX8, TX8, 41, .array .int, rfl, by decide, zw_t5 200 (by decide +kernel) (by decide +kernel), rfl, rfl, by decide +kernel, fun _ => ⟨rfl, rfl⟩⟩
theorem wff_X8_33 : zf_f RX8 33 8 17 := ⟨RX8, TX8, 41, .array .int, rfl, by decide, zw_t5 201 (by decide +kernel) (by decide +kernel), rfl, rfl, by decide +kernel, fun _ => ⟨rfl, rfl⟩⟩
theorem wff_X8_36 : zf_f RX8 36 8 18 := ⟨RX8, TX8, 41, .array .int, rfl, by decide, zw_t5 202 (by decide +kernel) (by decide +kernel), rfl, rfl, by decide +kernel, fun _ => ⟨rfl, rfl⟩⟩
theorem wff_X8_39 : zf_f RX8 39 8 19 := ⟨RX8, TX8, 41, .array .int, rfl, by decide, zw_t5 203 (by decide +kernel) (by decide +kernel), rfl, rfl, by decide +kernel, fun _ => ⟨rfl, rfl⟩⟩
theorem wff_X8_42 : zf_f RX8 42 8 22 := ⟨RX8, TX8, 41, .array .int, rfl, by decide, zw_t5 206 (by decide +kernel) (by decide +kernel), rfl, rfl, by decide +kernel, fun _ => ⟨rfl, rfl⟩⟩
theorem wff_X8_45 : zf_f RX8 45 8 23 := ⟨RX8, TX8, 41, .array .int, rfl, by decide, zw_t5 207 (by decide +kernel) (by decide +kernel), rfl, rfl, by decide +kernel, fun _ => ⟨rfl, rfl⟩⟩
theorem wff_X8_48 : zf_f RX8 48 8 24 := ⟨RX8, TX8, 41, .array .int, rfl, by decide, zw_t5 208 (by decide +kernel) (by decide +kernel), rfl, rfl, by decide +kernel, fun _ => ⟨rfl, rfl⟩⟩
theorem wff_X8_51 : zf_f RX8 51 8 25 := ⟨RX8, TX8, 41, .array .int, rfl, by decide, zw_t5 209 (by decide +kernel) (by decide +kernel), rfl, rfl, by decide +kernel, fun _ => ⟨rfl, rfl⟩⟩
theorem wff_X8_54 : zf_f RX8 54 8 26 := ⟨RX8, TX8, 41, .array .boolean, rfl, by decide, zw_t5 210 (by decide +kernel) (by decide +kernel), rfl, rfl, by decide +kernel, fun _ => ⟨rfl, rfl⟩⟩
theorem wff_X8_57 : zf_f RX8 57 8 27 := ⟨RX8, TX8, 41, .array .int, rfl, by decide, zw_t5 211 (by decide +kernel) (by decide +kernel), rfl, rfl, by decide +kernel, fun _ => ⟨rfl, rfl⟩⟩
theorem wff_X8_60 : zf_f RX8 60 8 30 := ⟨RX8, TX8, 41, .array .int, rfl, by decide, zw_t5 214 (by decide +kernel) (by decide +kernel), rfl, rfl, by decide +kernel, fun _ => ⟨rfl, rfl⟩⟩
theorem wff_X8_63 : zf_f RX8 63 8 31 := ⟨RX8, TX8, 41, .array .int, rfl, by decide, zw_t5 215 (by decide +kernel) (by decide +kernel), rfl, rfl, by decide +kernel, fun _ => ⟨rfl, rfl⟩⟩
theorem wff_X8_66 : zf_f RX8 66 8 34 := ⟨RX8, TX8, 41, .array .int, rfl, by decide, zw_t5 218 (by decide +kernel) (by decide +kernel), rfl, rfl, by decide +kernel, fun _ => ⟨rfl, rfl⟩⟩
theorem wff_X8_69 : zf_f RX8 69 8 35 := ⟨RX8, TX8, 41, .array .boolean, rfl, by decide, zw_t5 219 (by decide +kernel) (by decide +kernel), rfl, rfl, by decide +kernel, fun _ => ⟨rfl, rfl⟩⟩
theorem wff_X8_72 : zf_f RX8 72 8 36 := ⟨RX8, TX8, 41, .array .int, rfl, by decide, zw_t5 220 (by decide +kernel) (by decide +kernel), rfl, rfl, by decide +kernel, fun _ => ⟨rfl, rfl⟩⟩
theorem wff_X8_75 : zf_f RX8 75 8 37 := ⟨RX8, TX8, 41, .array .int, rfl, by decide, zw_t5 221 (by decide +kernel) (by decide +kernel), rfl, rfl, by decide +kernel, fun _ => ⟨rfl, rfl⟩⟩
theorem wff_X8_78 : zf_f RX8 78 8 38 := ⟨RX8, TX8, 41, .array .int, rfl, by decide, zw_t5 222 (by decide +kernel) (by decide +kernel), rfl, rfl, by decide +kernel, fun _ => ⟨rfl, rfl⟩⟩
theorem wff_X8_81 : zf_f RX8 81 8 39 := ⟨RX8, TX8, 41, .array .int, rfl, by decide, zw_t5 223 (by decide +kernel) (by decide +kernel), rfl, rfl, by decide +kernel, fun _ => ⟨rfl, rfl⟩⟩
theorem wff_X8_84 : zf_f RX8 84 8 40 := ⟨RX8, TX8, 41, .array .long, rfl, by decide, zw_t5 224 (by decide +kernel) (by decide +kernel), rfl, rfl, by decide +kernel, fun _ => ⟨rfl, rfl⟩⟩
abbrev zn_ns : List Cond := [.methodLinkNest RX7 26 yX3_init RX7, .methodLinkNest RX7 51 yX6_init RX7]
theorem zn_ns_ok : zn_ok zn_ns := by
  intro w hw
  simp only [zn_ns, List.mem_cons, List.not_mem_nil, or_false] at hw
  rcases hw with rfl | rfl
  · exact ⟨rfl, _, _, _, _, rfl⟩
  · exact ⟨rfl, _, _, _, _, rfl⟩
theorem wcu_0 : ∀ w ∈ u_ws RX0 TX0 14, w ∈ zw_T := by
  obtain ⟨C, T, N, h1, h2, -⟩ := wc_0
  cases h1
  exact h2
theorem hfs_0 : ∀ j, j < 14 → defaultValue (tyX0 j) = vp_V [.null, .null, .null, .null, .int 0, .null, .null, .null, .int 0, .int 0, .int 0, .null, .int 0, .null] j := by
  intro j hj
  match j, hj with
  | 0, _ => rfl
  | 1, _ => rfl
  | 2, _ => rfl
  | 3, _ => rfl
  | 4, _ => rfl
  | 5, _ => rfl
  | 6, _ => rfl
  | 7, _ => rfl
  | 8, _ => rfl
  | 9, _ => rfl
  | 10, _ => rfl
  | 11, _ => rfl
  | 12, _ => rfl
  | 13, _ => rfl
  | j + 14, h => exact absurd h (by omega)
theorem wcu_1 : ∀ w ∈ u_ws RX1 TX1 6, w ∈ zw_T := by
  obtain ⟨C, T, N, h1, h2, -⟩ := wc_1
  cases h1
  exact h2
theorem hfs_1 : ∀ j, j < 6 → defaultValue (tyX1 j) = vp_V [.null, .null, .null, .int 0, .int 0, .int 0] j := by
  intro j hj
  match j, hj with
  | 0, _ => rfl
  | 1, _ => rfl
  | 2, _ => rfl
  | 3, _ => rfl
  | 4, _ => rfl
  | 5, _ => rfl
  | j + 6, h => exact absurd h (by omega)
theorem wcu_2 : ∀ w ∈ u_ws RX2 TX2 4, w ∈ zw_T := by
  obtain ⟨C, T, N, h1, h2, -⟩ := wc_2
  cases h1
  exact h2
theorem hfs_2 : ∀ j, j < 4 → defaultValue (tyX2 j) = vp_V [.null, .null, .null, .int 0] j := by
  intro j hj
  match j, hj with
  | 0, _ => rfl
  | 1, _ => rfl
  | 2, _ => rfl
  | 3, _ => rfl
  | j + 4, h => exact absurd h (by omega)
theorem wcu_3 : ∀ w ∈ u_ws RX3 TX3 7, w ∈ zw_T := by
  obtain ⟨C, T, N, h1, h2, -⟩ := wc_3
  cases h1
  exact h2
theorem hfs_3 : ∀ j, j < 7 → defaultValue (tyX3 j) = vp_V [.null, .int 0, .int 0, .null, .null, .int 0, .int 0] j := by
  intro j hj
  match j, hj with
  | 0, _ => rfl
  | 1, _ => rfl
  | 2, _ => rfl
  | 3, _ => rfl
  | 4, _ => rfl
  | 5, _ => rfl
  | 6, _ => rfl
  | j + 7, h => exact absurd h (by omega)
theorem wcu_4 : ∀ w ∈ u_ws RX4 TX4 19, w ∈ zw_T := by
  obtain ⟨C, T, N, h1, h2, -⟩ := wc_4
  cases h1
  exact h2
theorem hfs_4 : ∀ j, j < 19 → defaultValue (tyX4 j) = vp_V [.null, .null, .null, .null, .null, .null, .null, .null, .null, .null, .null, .null, .null, .null, .int 0, .null, .null, .null, .null] j := by
  intro j hj
  match j, hj with
  | 0, _ => rfl
  | 1, _ => rfl
  | 2, _ => rfl
  | 3, _ => rfl
  | 4, _ => rfl
  | 5, _ => rfl
  | 6, _ => rfl
  | 7, _ => rfl
  | 8, _ => rfl
  | 9, _ => rfl
  | 10, _ => rfl
  | 11, _ => rfl
  | 12, _ => rfl
  | 13, _ => rfl
  | 14, _ => rfl
  | 15, _ => rfl
  | 16, _ => rfl
  | 17, _ => rfl
  | 18, _ => rfl
  | j + 19, h => exact absurd h (by omega)
theorem wcu_5 : ∀ w ∈ u_ws RX5 TX5 15, w ∈ zw_T := by
  obtain ⟨C, T, N, h1, h2, -⟩ := wc_5
  cases h1
  exact h2
theorem hfs_5 : ∀ j, j < 15 → defaultValue (tyX5 j) = vp_V [.int 0, .int 0, .null, .null, .null, .null, .null, .null, .int 0, .int 0, .int 0, .int 0, .int 0, .null, .null] j := by
  intro j hj
  match j, hj with
  | 0, _ => rfl
  | 1, _ => rfl
  | 2, _ => rfl
  | 3, _ => rfl
  | 4, _ => rfl
  | 5, _ => rfl
  | 6, _ => rfl
  | 7, _ => rfl
  | 8, _ => rfl
  | 9, _ => rfl
  | 10, _ => rfl
  | 11, _ => rfl
  | 12, _ => rfl
  | 13, _ => rfl
  | 14, _ => rfl
  | j + 15, h => exact absurd h (by omega)
theorem wcu_6 : ∀ w ∈ u_ws RX6 TX6 3, w ∈ zw_T := by
  obtain ⟨C, T, N, h1, h2, -⟩ := wc_6
  cases h1
  exact h2
theorem hfs_6 : ∀ j, j < 3 → defaultValue (tyX6 j) = vp_V [.null, .null, .null] j := by
  intro j hj
  match j, hj with
  | 0, _ => rfl
  | 1, _ => rfl
  | 2, _ => rfl
  | j + 3, h => exact absurd h (by omega)
theorem wcu_7 : ∀ w ∈ u_ws RX7 TX7 12, w ∈ zw_T := by
  obtain ⟨C, T, N, h1, h2, -⟩ := wc_7
  cases h1
  exact h2
theorem hfs_7 : ∀ j, j < 12 → defaultValue (tyX7 j) = vp_V [.null, .int 0, .null, .null, .null, .null, .null, .null, .null, .null, .null, .null] j := by
  intro j hj
  match j, hj with
  | 0, _ => rfl
  | 1, _ => rfl
  | 2, _ => rfl
  | 3, _ => rfl
  | 4, _ => rfl
  | 5, _ => rfl
  | 6, _ => rfl
  | 7, _ => rfl
  | 8, _ => rfl
  | 9, _ => rfl
  | 10, _ => rfl
  | 11, _ => rfl
  | j + 12, h => exact absurd h (by omega)
theorem wcu_8 : ∀ w ∈ u_ws RX8 TX8 41, w ∈ zw_T := by
  obtain ⟨C, T, N, h1, h2, -⟩ := wc_8
  cases h1
  exact h2
theorem hfs_8 : ∀ j, j < 41 → defaultValue (tyX8 j) = vp_V [.int 0, .null, .null, .null, .null, .int 0, .int 0, .int 0, .int 0, .int 0, .int 0, .int 0, .int 0, .int 0, .int 0, .int 0, .null, .null, .null, .null, .int 0, .int 0, .null, .null, .null, .null, .null, .null, .int 0, .int 0, .null, .null, .int 0, .int 0, .null, .null, .null, .null, .null, .null, .null] j := by
  intro j hj
  match j, hj with
  | 0, _ => rfl
  | 1, _ => rfl
  | 2, _ => rfl
  | 3, _ => rfl
  | 4, _ => rfl
  | 5, _ => rfl
  | 6, _ => rfl
  | 7, _ => rfl
  | 8, _ => rfl
  | 9, _ => rfl
  | 10, _ => rfl
  | 11, _ => rfl
  | 12, _ => rfl
  | 13, _ => rfl
  | 14, _ => rfl
  | 15, _ => rfl
  | 16, _ => rfl
  | 17, _ => rfl
  | 18, _ => rfl
  | 19, _ => rfl
  | 20, _ => rfl
  | 21, _ => rfl
  | 22, _ => rfl
  | 23, _ => rfl
  | 24, _ => rfl
  | 25, _ => rfl
  | 26, _ => rfl
  | 27, _ => rfl
  | 28, _ => rfl
  | 29, _ => rfl
  | 30, _ => rfl
  | 31, _ => rfl
  | 32, _ => rfl
  | 33, _ => rfl
  | 34, _ => rfl
  | 35, _ => rfl
  | 36, _ => rfl
  | 37, _ => rfl
  | 38, _ => rfl
  | 39, _ => rfl
  | 40, _ => rfl
  | j + 41, h => exact absurd h (by omega)
theorem wmc_X7_19 : Cond.methodLink RX7 19 yX5_init ∈ zw_T := zw_t1 29 (by decide +kernel) (by decide +kernel)
theorem wmc_X7_33 : Cond.methodLink RX7 33 yX4_init ∈ zw_T := zw_t1 156 (by decide +kernel) (by decide +kernel)
theorem wmc_X7_42 : Cond.methodLink RX7 42 yX0_init ∈ zw_T := zw_t1 221 (by decide +kernel) (by decide +kernel)
theorem wmc_X7_58 : Cond.methodLink RX7 58 yX1_init ∈ zw_T := zw_t2 50 (by decide +kernel) (by decide +kernel)
theorem wmc_X7_67 : Cond.methodLink RX7 67 yX2_init ∈ zw_T := zw_t2 77 (by decide +kernel) (by decide +kernel)
theorem wmc_X3_11 : Cond.methodLink RX3 11 yX5_init ∈ zw_T := zw_t1 128 (by decide +kernel) (by decide +kernel)
theorem zi_b_49 : (Int8.ofInt 49).toInt32 = (49 : Int32) := by decide
theorem zi_s_128 : (Int16.ofInt 128).toInt32 = (128 : Int32) := by decide
theorem zi_s_144 : (Int16.ofInt 144).toInt32 = (144 : Int32) := by decide
theorem zi_s_160 : (Int16.ofInt 160).toInt32 = (160 : Int32) := by decide
theorem zi_s_210 : (Int16.ofInt 210).toInt32 = (210 : Int32) := by decide
theorem zi_s_901 : (Int16.ofInt 901).toInt32 = (901 : Int32) := by decide
theorem zi_s_1225 : (Int16.ofInt 1225).toInt32 = (1225 : Int32) := by decide
theorem zi_s_1624 : (Int16.ofInt 1624).toInt32 = (1624 : Int32) := by decide
theorem zi_s_3465 : (Int16.ofInt 3465).toInt32 = (3465 : Int32) := by decide
