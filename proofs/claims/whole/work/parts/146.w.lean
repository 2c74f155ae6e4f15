theorem dX8_readBoth_0 : decode cX8_readBoth 0 = .ok (.aload_n 0, 1) := by decide +kernel
theorem dX8_readBoth_1 : decode cX8_readBoth 1 = .ok (.iload_n 1, 1) := by decide +kernel
theorem dX8_readBoth_2 : decode cX8_readBoth 2 = .ok (.invokevirtual 182, 3) := by decide +kernel
theorem dX8_readBoth_5 : decode cX8_readBoth 5 = .ok (.aload_n 0, 1) := by decide +kernel
theorem dX8_readBoth_6 : decode cX8_readBoth 6 = .ok (.bipush 14, 2) := by decide +kernel
theorem dX8_readBoth_8 : decode cX8_readBoth 8 = .ok (.invokevirtual 173, 3) := by decide +kernel
theorem dX8_readBoth_11 : decode cX8_readBoth 11 = .ok (.ifCond .eq 18, 3) := by decide +kernel
theorem dX8_readBoth_14 : decode cX8_readBoth 14 = .ok (.aload_n 0, 1) := by decide +kernel
theorem dX8_readBoth_15 : decode cX8_readBoth 15 = .ok (.iload_n 1, 1) := by decide +kernel
theorem dX8_readBoth_16 : decode cX8_readBoth 16 = .ok (.invokevirtual 182, 3) := by decide +kernel
theorem dX8_readBoth_19 : decode cX8_readBoth 19 = .ok (.aload_n 0, 1) := by decide +kernel
theorem dX8_readBoth_20 : decode cX8_readBoth 20 = .ok (.sipush 3007, 3) := by decide +kernel
theorem dX8_readBoth_23 : decode cX8_readBoth 23 = .ok (.invokevirtual 161, 3) := by decide +kernel
theorem dX8_readBoth_26 : decode cX8_readBoth 26 = .ok (.goto (-21), 3) := by decide +kernel
theorem dX8_readBoth_29 : decode cX8_readBoth 29 = .ok (.return_, 1) := by decide +kernel
theorem dX8_readTruth_0 : decode cX8_readTruth 0 = .ok (.aload_n 0, 1) := by decide +kernel
theorem dX8_readTruth_1 : decode cX8_readTruth 1 = .ok (.iload_n 1, 1) := by decide +kernel
theorem dX8_readTruth_2 : decode cX8_readTruth 2 = .ok (.invokevirtual 188, 3) := by decide +kernel
theorem dX8_readTruth_5 : decode cX8_readTruth 5 = .ok (.aload_n 0, 1) := by decide +kernel
theorem dX8_readTruth_6 : decode cX8_readTruth 6 = .ok (.bipush 15, 2) := by decide +kernel
theorem dX8_readTruth_8 : decode cX8_readTruth 8 = .ok (.invokevirtual 173, 3) := by decide +kernel
theorem dX8_readTruth_11 : decode cX8_readTruth 11 = .ok (.ifCond .eq 18, 3) := by decide +kernel
theorem dX8_readTruth_14 : decode cX8_readTruth 14 = .ok (.aload_n 0, 1) := by decide +kernel
theorem dX8_readTruth_15 : decode cX8_readTruth 15 = .ok (.iload_n 1, 1) := by decide +kernel
theorem dX8_readTruth_16 : decode cX8_readTruth 16 = .ok (.invokevirtual 188, 3) := by decide +kernel
theorem dX8_readTruth_19 : decode cX8_readTruth 19 = .ok (.aload_n 0, 1) := by decide +kernel
theorem dX8_readTruth_20 : decode cX8_readTruth 20 = .ok (.sipush 3008, 3) := by decide +kernel
theorem dX8_readTruth_23 : decode cX8_readTruth 23 = .ok (.invokevirtual 161, 3) := by decide +kernel
theorem dX8_readTruth_26 : decode cX8_readTruth 26 = .ok (.goto (-21), 3) := by decide +kernel
theorem dX8_readTruth_29 : decode cX8_readTruth 29 = .ok (.return_, 1) := by decide +kernel
theorem dX8_readUnit_0 : decode cX8_readUnit 0 = .ok (.aload_n 0, 1) := by decide +kernel
theorem dX8_readUnit_1 : decode cX8_readUnit 1 = .ok (.bipush 16, 2) := by decide +kernel
theorem dX8_readUnit_3 : decode cX8_readUnit 3 = .ok (.invokevirtual 144, 3) := by decide +kernel
theorem dX8_readUnit_6 : decode cX8_readUnit 6 = .ok (.ifCond .eq 27, 3) := by decide +kernel
theorem dX8_readUnit_9 : decode cX8_readUnit 9 = .ok (.aload_n 0, 1) := by decide +kernel
theorem dX8_readUnit_10 : decode cX8_readUnit 10 = .ok (.iload_n 1, 1) := by decide +kernel
theorem dX8_readUnit_11 : decode cX8_readUnit 11 = .ok (.invokevirtual 167, 3) := by decide +kernel
theorem dX8_readUnit_14 : decode cX8_readUnit 14 = .ok (.ifCond .ne 4, 3) := by decide +kernel
theorem dX8_readUnit_17 : decode cX8_readUnit 17 = .ok (.return_, 1) := by decide +kernel
theorem dX8_readUnit_18 : decode cX8_readUnit 18 = .ok (.aload_n 0, 1) := by decide +kernel
theorem dX8_readUnit_19 : decode cX8_readUnit 19 = .ok (.iload_n 1, 1) := by decide +kernel
theorem dX8_readUnit_20 : decode cX8_readUnit 20 = .ok (.iconst 1, 1) := by decide +kernel
theorem dX8_readUnit_21 : decode cX8_readUnit 21 = .ok (.iadd, 1) := by decide +kernel
theorem dX8_readUnit_22 : decode cX8_readUnit 22 = .ok (.invokevirtual 182, 3) := by decide +kernel
theorem dX8_readUnit_25 : decode cX8_readUnit 25 = .ok (.aload_n 0, 1) := by decide +kernel
theorem dX8_readUnit_26 : decode cX8_readUnit 26 = .ok (.sipush 3006, 3) := by decide +kernel
theorem dX8_readUnit_29 : decode cX8_readUnit 29 = .ok (.invokevirtual 161, 3) := by decide +kernel
theorem dX8_readUnit_32 : decode cX8_readUnit 32 = .ok (.return_, 1) := by decide +kernel
theorem dX8_readUnit_33 : decode cX8_readUnit 33 = .ok (.aload_n 0, 1) := by decide +kernel
theorem dX8_readUnit_34 : decode cX8_readUnit 34 = .ok (.bipush 37, 2) := by decide +kernel
theorem dX8_readUnit_36 : decode cX8_readUnit 36 = .ok (.invokevirtual 144, 3) := by decide +kernel
theorem dX8_readUnit_39 : decode cX8_readUnit 39 = .ok (.ifCond .eq 34, 3) := by decide +kernel
theorem dX8_readUnit_42 : decode cX8_readUnit 42 = .ok (.aload_n 0, 1) := by decide +kernel
theorem dX8_readUnit_43 : decode cX8_readUnit 43 = .ok (.iload_n 1, 1) := by decide +kernel
theorem dX8_readUnit_44 : decode cX8_readUnit 44 = .ok (.invokevirtual 167, 3) := by decide +kernel
theorem dX8_readUnit_47 : decode cX8_readUnit 47 = .ok (.ifCond .ne 4, 3) := by decide +kernel
theorem dX8_readUnit_50 : decode cX8_readUnit 50 = .ok (.return_, 1) := by decide +kernel
theorem dX8_readUnit_51 : decode cX8_readUnit 51 = .ok (.aload_n 0, 1) := by decide +kernel
theorem dX8_readUnit_52 : decode cX8_readUnit 52 = .ok (.iload_n 1, 1) := by decide +kernel
theorem dX8_readUnit_53 : decode cX8_readUnit 53 = .ok (.iconst 1, 1) := by decide +kernel
theorem dX8_readUnit_54 : decode cX8_readUnit 54 = .ok (.iadd, 1) := by decide +kernel
theorem dX8_readUnit_55 : decode cX8_readUnit 55 = .ok (.invokevirtual 185, 3) := by decide +kernel
theorem dX8_readUnit_58 : decode cX8_readUnit 58 = .ok (.aload_n 0, 1) := by decide +kernel
theorem dX8_readUnit_59 : decode cX8_readUnit 59 = .ok (.bipush 38, 2) := by decide +kernel
theorem dX8_readUnit_61 : decode cX8_readUnit 61 = .ok (.invokevirtual 173, 3) := by decide +kernel
theorem dX8_readUnit_64 : decode cX8_readUnit 64 = .ok (.ifCond .ne 8, 3) := by decide +kernel
theorem dX8_readUnit_67 : decode cX8_readUnit 67 = .ok (.aload_n 0, 1) := by decide +kernel
theorem dX8_readUnit_68 : decode cX8_readUnit 68 = .ok (.iconst 2, 1) := by decide +kernel
theorem dX8_readUnit_69 : decode cX8_readUnit 69 = .ok (.invokevirtual 150, 3) := by decide +kernel
theorem dX8_readUnit_72 : decode cX8_readUnit 72 = .ok (.return_, 1) := by decide +kernel
theorem dX8_readUnit_73 : decode cX8_readUnit 73 = .ok (.aload_n 0, 1) := by decide +kernel
theorem dX8_readUnit_74 : decode cX8_readUnit 74 = .ok (.iload_n 1, 1) := by decide +kernel
theorem dX8_readUnit_75 : decode cX8_readUnit 75 = .ok (.invokevirtual 170, 3) := by decide +kernel
theorem dX8_readUnit_78 : decode cX8_readUnit 78 = .ok (.aload_n 0, 1) := by decide +kernel
theorem dX8_readUnit_79 : decode cX8_readUnit 79 = .ok (.bipush 39, 2) := by decide +kernel
theorem dX8_readUnit_81 : decode cX8_readUnit 81 = .ok (.invokevirtual 144, 3) := by decide +kernel
theorem dX8_readUnit_84 : decode cX8_readUnit 84 = .ok (.ifCond .eq 9, 3) := by decide +kernel
theorem dX8_readUnit_87 : decode cX8_readUnit 87 = .ok (.sipush 3003, 3) := by decide +kernel
theorem dX8_readUnit_90 : decode cX8_readUnit 90 = .ok (.goto 21, 3) := by decide +kernel
theorem dX8_readUnit_93 : decode cX8_readUnit 93 = .ok (.aload_n 0, 1) := by decide +kernel
theorem dX8_readUnit_94 : decode cX8_readUnit 94 = .ok (.bipush 40, 2) := by decide +kernel
theorem dX8_readUnit_96 : decode cX8_readUnit 96 = .ok (.invokevirtual 144, 3) := by decide +kernel
theorem dX8_readUnit_99 : decode cX8_readUnit 99 = .ok (.ifCond .eq 9, 3) := by decide +kernel
theorem dX8_readUnit_102 : decode cX8_readUnit 102 = .ok (.sipush 3004, 3) := by decide +kernel
theorem dX8_readUnit_105 : decode cX8_readUnit 105 = .ok (.goto 6, 3) := by decide +kernel
theorem dX8_readUnit_108 : decode cX8_readUnit 108 = .ok (.sipush 3005, 3) := by decide +kernel
theorem dX8_readUnit_111 : decode cX8_readUnit 111 = .ok (.istore_n 2, 1) := by decide +kernel
theorem dX8_readUnit_112 : decode cX8_readUnit 112 = .ok (.aload_n 0, 1) := by decide +kernel
theorem dX8_readUnit_113 : decode cX8_readUnit 113 = .ok (.bipush 39, 2) := by decide +kernel
theorem dX8_readUnit_115 : decode cX8_readUnit 115 = .ok (.invokevirtual 144, 3) := by decide +kernel
theorem dX8_readUnit_118 : decode cX8_readUnit 118 = .ok (.ifCond .ne 21, 3) := by decide +kernel
theorem dX8_readUnit_121 : decode cX8_readUnit 121 = .ok (.aload_n 0, 1) := by decide +kernel
theorem dX8_readUnit_122 : decode cX8_readUnit 122 = .ok (.bipush 40, 2) := by decide +kernel
theorem dX8_readUnit_124 : decode cX8_readUnit 124 = .ok (.invokevirtual 144, 3) := by decide +kernel
theorem dX8_readUnit_127 : decode cX8_readUnit 127 = .ok (.ifCond .ne 12, 3) := by decide +kernel
theorem dX8_readUnit_130 : decode cX8_readUnit 130 = .ok (.aload_n 0, 1) := by decide +kernel
theorem dX8_readUnit_131 : decode cX8_readUnit 131 = .ok (.bipush 41, 2) := by decide +kernel
theorem dX8_readUnit_133 : decode cX8_readUnit 133 = .ok (.invokevirtual 144, 3) := by decide +kernel
theorem dX8_readUnit_136 : decode cX8_readUnit 136 = .ok (.ifCond .eq 10, 3) := by decide +kernel
theorem dX8_readUnit_139 : decode cX8_readUnit 139 = .ok (.aload_n 0, 1) := by decide +kernel
theorem dX8_readUnit_140 : decode cX8_readUnit 140 = .ok (.invokevirtual 147, 3) := by decide +kernel
theorem dX8_readUnit_143 : decode cX8_readUnit 143 = .ok (.goto 8, 3) := by decide +kernel
theorem dX8_readUnit_146 : decode cX8_readUnit 146 = .ok (.aload_n 0, 1) := by decide +kernel
theorem dX8_readUnit_147 : decode cX8_readUnit 147 = .ok (.iconst 2, 1) := by decide +kernel
theorem dX8_readUnit_148 : decode cX8_readUnit 148 = .ok (.invokevirtual 150, 3) := by decide +kernel
theorem dX8_readUnit_151 : decode cX8_readUnit 151 = .ok (.aload_n 0, 1) := by decide +kernel
theorem dX8_readUnit_152 : decode cX8_readUnit 152 = .ok (.iload_n 1, 1) := by decide +kernel
theorem dX8_readUnit_153 : decode cX8_readUnit 153 = .ok (.invokevirtual 170, 3) := by decide +kernel
theorem dX8_readUnit_156 : decode cX8_readUnit 156 = .ok (.aload_n 0, 1) := by decide +kernel
theorem dX8_readUnit_157 : decode cX8_readUnit 157 = .ok (.iload_n 2, 1) := by decide +kernel
theorem dX8_readUnit_158 : decode cX8_readUnit 158 = .ok (.invokevirtual 161, 3) := by decide +kernel
theorem dX8_readUnit_161 : decode cX8_readUnit 161 = .ok (.return_, 1) := by decide +kernel
def f_X8_readBoth_5 (q_X8_readUnit : Int32 → zS → Option (Unit × zS)) : Nat → Int32 → zS → Option (Unit × zS)
  | 0, _, _ => none
  | n + 1, v1, s =>
    zbd (f_X8_eats (nI 14) s) fun r1 s2 =>
    if r1 = 0 then
    (some ((), s2))
    else
    zbd (q_X8_readUnit v1 s2) fun _ s3 =>
    zbd (f_X8_codes (nI 3007) s3) fun _ s4 =>
    f_X8_readBoth_5 q_X8_readUnit n v1 s4
set_option maxRecDepth 20000 in
theorem b_X8_readBoth_5 {X : zX} {dd : Nat} {q_X8_readUnit : Int32 → zS → Option (Unit × zS)} (hX : zx_ok X cX8_readBoth RX8 2) (hT : zx_rt X none (zR (72 + dd + 1) (1580 + (dd + 1) * 22))) (hq_X8_readUnit : ∀ (v1 : Int32) (s : zS), zM (zx_Y X) yX8_readUnit cX8_readUnit 3 none (zR (72 + dd) (1580 + dd * 22)) [.ref (zx_ad X 76), .int v1] s zrV (q_X8_readUnit v1 s)) : ∀ (n : Nat) (v1 : Int32) (s : zS), zV X (zq X zrV) 2 5 [(0, .ref (zx_ad X 76)), (1, .int v1)] [] s (f_X8_readBoth_5 q_X8_readUnit n v1 s) := by
  have hDP : zDP = 64 := rfl
  intro n
  induction n with
  | zero => intro v1 s; exact zv_none
  | succ n ih =>
    intro v1 s
    rw [f_X8_readBoth_5]
    refine zv_aload_n hX dX8_readBoth_5 0 rfl ?_
    refine zv_bipush (v := (nI 14)) hX dX8_readBoth_6 zi_b_14 ?_
    refine zv_cVI [.int (nI 14)] (rest := []) hX hT.2.2.2.2 (c_X8_eats (zx_Y X) (nI 14) s) wv_X8_eats c9_8 zd_76 wm_X8_173 rfl (by omega) (by omega) rfl (Nat.le_of_ble_eq_true rfl) dX8_readBoth_8 (fun r1 s2 => ?_)
    refine zv_if_eq (tgt := 29) hX dX8_readBoth_11 rfl ?_ ?_
    · exact zv_vret hX hT dX8_readBoth_29
    · refine zv_aload_n hX dX8_readBoth_14 0 rfl ?_
      refine zv_iload_n hX dX8_readBoth_15 1 rfl ?_
      refine zv_cVV [.int v1] (rest := []) hX hT.2.2.2.2 (hq_X8_readUnit v1 s2) wv_X8_readUnit c9_8 zd_76 wm_X8_182 rfl (by omega) (by omega) rfl (Nat.le_of_ble_eq_true rfl) dX8_readBoth_16 (fun _ s3 => ?_)
      refine zv_aload_n hX dX8_readBoth_19 0 rfl ?_
      refine zv_sipush (v := (nI 3007)) hX dX8_readBoth_20 zi_s_3007 ?_
      refine zv_cVV [.int (nI 3007)] (rest := []) hX hT.2.2.2.2 (c_X8_codes (zx_Y X) (nI 3007) s3) wv_X8_codes c9_8 zd_76 wm_X8_161 rfl (by omega) (by omega) rfl (Nat.le_of_ble_eq_true rfl) dX8_readBoth_23 (fun _ s4 => ?_)
      refine zv_goto (tgt := 5) hX dX8_readBoth_26 rfl ?_
      exact ih v1 s4
def g_X8_readBoth (q_X8_readUnit : Int32 → zS → Option (Unit × zS)) (v1 : Int32) (s : zS) : Option (Unit × zS) :=
  zbd (q_X8_readUnit v1 s) fun _ s5 =>
  f_X8_readBoth_5 q_X8_readUnit zFU v1 s5
set_option maxRecDepth 20000 in
theorem e_X8_readBoth {X : zX} {dd : Nat} {q_X8_readUnit : Int32 → zS → Option (Unit × zS)} (hX : zx_ok X cX8_readBoth RX8 2) (hT : zx_rt X none (zR (72 + dd + 1) (1580 + (dd + 1) * 22))) (hq_X8_readUnit : ∀ (v1 : Int32) (s : zS), zM (zx_Y X) yX8_readUnit cX8_readUnit 3 none (zR (72 + dd) (1580 + dd * 22)) [.ref (zx_ad X 76), .int v1] s zrV (q_X8_readUnit v1 s)) : ∀ (v1 : Int32) (s : zS), zV X (zq X zrV) 2 0 [(0, .ref (zx_ad X 76)), (1, .int v1)] [] s (g_X8_readBoth q_X8_readUnit v1 s) := by
  have hDP : zDP = 64 := rfl
  intro v1 s
  unfold g_X8_readBoth
  refine zv_aload_n hX dX8_readBoth_0 0 rfl ?_
  refine zv_iload_n hX dX8_readBoth_1 1 rfl ?_
  refine zv_cVV [.int v1] (rest := []) hX hT.2.2.2.2 (hq_X8_readUnit v1 s) wv_X8_readUnit c9_8 zd_76 wm_X8_182 rfl (by omega) (by omega) rfl (Nat.le_of_ble_eq_true rfl) dX8_readBoth_2 (fun _ s5 => ?_)
  exact b_X8_readBoth_5 hX hT hq_X8_readUnit zFU v1 s5
def f_X8_readTruth_5 (q_X8_readBoth : Int32 → zS → Option (Unit × zS)) : Nat → Int32 → zS → Option (Unit × zS)
  | 0, _, _ => none
  | n + 1, v1, s =>
    zbd (f_X8_eats (nI 15) s) fun r1 s2 =>
    if r1 = 0 then
    (some ((), s2))
    else
    zbd (q_X8_readBoth v1 s2) fun _ s3 =>
    zbd (f_X8_codes (nI 3008) s3) fun _ s4 =>
    f_X8_readTruth_5 q_X8_readBoth n v1 s4
set_option maxRecDepth 20000 in
theorem b_X8_readTruth_5 {X : zX} {dd : Nat} {q_X8_readBoth : Int32 → zS → Option (Unit × zS)} (hX : zx_ok X cX8_readTruth RX8 2) (hT : zx_rt X none (zR (72 + dd + 1) (1580 + (dd + 1) * 22))) (hq_X8_readBoth : ∀ (v1 : Int32) (s : zS), zM (zx_Y X) yX8_readBoth cX8_readBoth 2 none (zR (72 + dd) (1580 + dd * 22)) [.ref (zx_ad X 76), .int v1] s zrV (q_X8_readBoth v1 s)) : ∀ (n : Nat) (v1 : Int32) (s : zS), zV X (zq X zrV) 2 5 [(0, .ref (zx_ad X 76)), (1, .int v1)] [] s (f_X8_readTruth_5 q_X8_readBoth n v1 s) := by
  have hDP : zDP = 64 := rfl
  intro n
  induction n with
  | zero => intro v1 s; exact zv_none
  | succ n ih =>
    intro v1 s
    rw [f_X8_readTruth_5]
    refine zv_aload_n hX dX8_readTruth_5 0 rfl ?_
    refine zv_bipush (v := (nI 15)) hX dX8_readTruth_6 zi_b_15 ?_
    refine zv_cVI [.int (nI 15)] (rest := []) hX hT.2.2.2.2 (c_X8_eats (zx_Y X) (nI 15) s) wv_X8_eats c9_8 zd_76 wm_X8_173 rfl (by omega) (by omega) rfl (Nat.le_of_ble_eq_true rfl) dX8_readTruth_8 (fun r1 s2 => ?_)
    refine zv_if_eq (tgt := 29) hX dX8_readTruth_11 rfl ?_ ?_
    · exact zv_vret hX hT dX8_readTruth_29
    · refine zv_aload_n hX dX8_readTruth_14 0 rfl ?_
      refine zv_iload_n hX dX8_readTruth_15 1 rfl ?_
      refine zv_cVV [.int v1] (rest := []) hX hT.2.2.2.2 (hq_X8_readBoth v1 s2) wv_X8_readBoth c9_8 zd_76 wm_X8_188 rfl (by omega) (by omega) rfl (Nat.le_of_ble_eq_true rfl) dX8_readTruth_16 (fun _ s3 => ?_)
      refine zv_aload_n hX dX8_readTruth_19 0 rfl ?_
      refine zv_sipush (v := (nI 3008)) hX dX8_readTruth_20 zi_s_3008 ?_
      refine zv_cVV [.int (nI 3008)] (rest := []) hX hT.2.2.2.2 (c_X8_codes (zx_Y X) (nI 3008) s3) wv_X8_codes c9_8 zd_76 wm_X8_161 rfl (by omega) (by omega) rfl (Nat.le_of_ble_eq_true rfl) dX8_readTruth_23 (fun _ s4 => ?_)
      refine zv_goto (tgt := 5) hX dX8_readTruth_26 rfl ?_
      exact ih v1 s4
def g_X8_readTruth (q_X8_readBoth : Int32 → zS → Option (Unit × zS)) (v1 : Int32) (s : zS) : Option (Unit × zS) :=
  zbd (q_X8_readBoth v1 s) fun _ s5 =>
  f_X8_readTruth_5 q_X8_readBoth zFU v1 s5
set_option maxRecDepth 20000 in
theorem e_X8_readTruth {X : zX} {dd : Nat} {q_X8_readBoth : Int32 → zS → Option (Unit × zS)} (hX : zx_ok X cX8_readTruth RX8 2) (hT : zx_rt X none (zR (72 + dd + 1) (1580 + (dd + 1) * 22))) (hq_X8_readBoth : ∀ (v1 : Int32) (s : zS), zM (zx_Y X) yX8_readBoth cX8_readBoth 2 none (zR (72 + dd) (1580 + dd * 22)) [.ref (zx_ad X 76), .int v1] s zrV (q_X8_readBoth v1 s)) : ∀ (v1 : Int32) (s : zS), zV X (zq X zrV) 2 0 [(0, .ref (zx_ad X 76)), (1, .int v1)] [] s (g_X8_readTruth q_X8_readBoth v1 s) := by
  have hDP : zDP = 64 := rfl
  intro v1 s
  unfold g_X8_readTruth
  refine zv_aload_n hX dX8_readTruth_0 0 rfl ?_
  refine zv_iload_n hX dX8_readTruth_1 1 rfl ?_
  refine zv_cVV [.int v1] (rest := []) hX hT.2.2.2.2 (hq_X8_readBoth v1 s) wv_X8_readBoth c9_8 zd_76 wm_X8_188 rfl (by omega) (by omega) rfl (Nat.le_of_ble_eq_true rfl) dX8_readTruth_2 (fun _ s5 => ?_)
  exact b_X8_readTruth_5 hX hT hq_X8_readBoth zFU v1 s5
def f_X8_readUnit_151 (q_X8_readTruth : Int32 → zS → Option (Unit × zS)) (q_X8_readUnit : Int32 → zS → Option (Unit × zS)) (v1 : Int32) (v2 : Int32) (s : zS) : Option (Unit × zS) :=
  zbd (f_X8_readSum zDP v1 s) fun _ s1 =>
  zbd (f_X8_codes v2 s1) fun _ s2 =>
  some ((), s2)
set_option maxRecDepth 20000 in
theorem b_X8_readUnit_151 {X : zX} {dd : Nat} {q_X8_readTruth : Int32 → zS → Option (Unit × zS)} {q_X8_readUnit : Int32 → zS → Option (Unit × zS)} (hX : zx_ok X cX8_readUnit RX8 3) (hT : zx_rt X none (zR (72 + dd + 1) (1580 + (dd + 1) * 22))) (hq_X8_readTruth : ∀ (v1 : Int32) (s : zS), zM (zx_Y X) yX8_readTruth cX8_readTruth 2 none (zR (72 + dd) (1580 + dd * 22)) [.ref (zx_ad X 76), .int v1] s zrV (q_X8_readTruth v1 s)) (hq_X8_readUnit : ∀ (v1 : Int32) (s : zS), zM (zx_Y X) yX8_readUnit cX8_readUnit 3 none (zR (72 + dd) (1580 + dd * 22)) [.ref (zx_ad X 76), .int v1] s zrV (q_X8_readUnit v1 s)) : ∀ (v1 : Int32) (v2 : Int32) (s : zS), zV X (zq X zrV) 3 151 [(0, .ref (zx_ad X 76)), (1, .int v1), (2, .int v2)] [] s (f_X8_readUnit_151 q_X8_readTruth q_X8_readUnit v1 v2 s) := by
  have hDP : zDP = 64 := rfl
  intro v1 v2 s
  unfold f_X8_readUnit_151
  refine zv_aload_n hX dX8_readUnit_151 0 rfl ?_
  refine zv_iload_n hX dX8_readUnit_152 1 rfl ?_
  refine zv_cVV [.int v1] (rest := []) hX hT.2.2.2.2 (c_X8_readSum (zx_Y X) zDP v1 s) wv_X8_readSum c9_8 zd_76 wm_X8_170 rfl (by omega) (by omega) rfl (Nat.le_of_ble_eq_true rfl) dX8_readUnit_153 (fun _ s1 => ?_)
  refine zv_aload_n hX dX8_readUnit_156 0 rfl ?_
  refine zv_iload_n hX dX8_readUnit_157 2 rfl ?_
  refine zv_cVV [.int v2] (rest := []) hX hT.2.2.2.2 (c_X8_codes (zx_Y X) v2 s1) wv_X8_codes c9_8 zd_76 wm_X8_161 rfl (by omega) (by omega) rfl (Nat.le_of_ble_eq_true rfl) dX8_readUnit_158 (fun _ s2 => ?_)
  exact zv_vret hX hT dX8_readUnit_161
def f_X8_readUnit_139 (q_X8_readTruth : Int32 → zS → Option (Unit × zS)) (q_X8_readUnit : Int32 → zS → Option (Unit × zS)) (v1 : Int32) (v2 : Int32) (s : zS) : Option (Unit × zS) :=
  zbd (f_X8_next s) fun _ s3 =>
  f_X8_readUnit_151 q_X8_readTruth q_X8_readUnit v1 v2 s3
set_option maxRecDepth 20000 in
theorem b_X8_readUnit_139 {X : zX} {dd : Nat} {q_X8_readTruth : Int32 → zS → Option (Unit × zS)} {q_X8_readUnit : Int32 → zS → Option (Unit × zS)} (hX : zx_ok X cX8_readUnit RX8 3) (hT : zx_rt X none (zR (72 + dd + 1) (1580 + (dd + 1) * 22))) (hq_X8_readTruth : ∀ (v1 : Int32) (s : zS), zM (zx_Y X) yX8_readTruth cX8_readTruth 2 none (zR (72 + dd) (1580 + dd * 22)) [.ref (zx_ad X 76), .int v1] s zrV (q_X8_readTruth v1 s)) (hq_X8_readUnit : ∀ (v1 : Int32) (s : zS), zM (zx_Y X) yX8_readUnit cX8_readUnit 3 none (zR (72 + dd) (1580 + dd * 22)) [.ref (zx_ad X 76), .int v1] s zrV (q_X8_readUnit v1 s)) : ∀ (v1 : Int32) (v2 : Int32) (s : zS), zV X (zq X zrV) 3 139 [(0, .ref (zx_ad X 76)), (1, .int v1), (2, .int v2)] [] s (f_X8_readUnit_139 q_X8_readTruth q_X8_readUnit v1 v2 s) := by
  have hDP : zDP = 64 := rfl
  intro v1 v2 s
  unfold f_X8_readUnit_139
  refine zv_aload_n hX dX8_readUnit_139 0 rfl ?_
  refine zv_cVV [] (rest := []) hX hT.2.2.2.2 (c_X8_next (zx_Y X) s) wv_X8_next c9_8 zd_76 wm_X8_147 rfl (by omega) (by omega) rfl (Nat.le_of_ble_eq_true rfl) dX8_readUnit_140 (fun _ s3 => ?_)
  refine zv_goto (tgt := 151) hX dX8_readUnit_143 rfl ?_
  exact b_X8_readUnit_151 hX hT hq_X8_readTruth hq_X8_readUnit v1 v2 s3
def f_X8_readUnit_111 (q_X8_readTruth : Int32 → zS → Option (Unit × zS)) (q_X8_readUnit : Int32 → zS → Option (Unit × zS)) (v1 : Int32) (w0 : Int32) (s : zS) : Option (Unit × zS) :=
  zbd (f_X8_is (nI 39) s) fun r4 s5 =>
  if ¬ r4 = 0 then
  (f_X8_readUnit_139 q_X8_readTruth q_X8_readUnit v1 w0 s5)
  else
  zbd (f_X8_is (nI 40) s5) fun r6 s7 =>
  if ¬ r6 = 0 then
  (f_X8_readUnit_139 q_X8_readTruth q_X8_readUnit v1 w0 s7)
  else
  zbd (f_X8_is (nI 41) s7) fun r8 s9 =>
  if r8 = 0 then
  (zbd (f_X8_fails (nI 2) s9) fun _ s10 =>
  f_X8_readUnit_151 q_X8_readTruth q_X8_readUnit v1 w0 s10)
  else
  f_X8_readUnit_139 q_X8_readTruth q_X8_readUnit v1 w0 s9
set_option maxRecDepth 20000 in
theorem b_X8_readUnit_111 {X : zX} {dd : Nat} {q_X8_readTruth : Int32 → zS → Option (Unit × zS)} {q_X8_readUnit : Int32 → zS → Option (Unit × zS)} (hX : zx_ok X cX8_readUnit RX8 3) (hT : zx_rt X none (zR (72 + dd + 1) (1580 + (dd + 1) * 22))) (hq_X8_readTruth : ∀ (v1 : Int32) (s : zS), zM (zx_Y X) yX8_readTruth cX8_readTruth 2 none (zR (72 + dd) (1580 + dd * 22)) [.ref (zx_ad X 76), .int v1] s zrV (q_X8_readTruth v1 s)) (hq_X8_readUnit : ∀ (v1 : Int32) (s : zS), zM (zx_Y X) yX8_readUnit cX8_readUnit 3 none (zR (72 + dd) (1580 + dd * 22)) [.ref (zx_ad X 76), .int v1] s zrV (q_X8_readUnit v1 s)) : ∀ (v1 : Int32) (w0 : Int32) (s : zS), zV X (zq X zrV) 3 111 [(0, .ref (zx_ad X 76)), (1, .int v1)] [.int w0] s (f_X8_readUnit_111 q_X8_readTruth q_X8_readUnit v1 w0 s) := by
  have hDP : zDP = 64 := rfl
  intro v1 w0 s
  unfold f_X8_readUnit_111
  refine zv_istore_n (lv' := [(2, .int w0), (0, .ref (zx_ad X 76)), (1, .int v1)]) hX dX8_readUnit_111 (by decide) rfl ?_
  refine zv_aload_n hX dX8_readUnit_112 1 rfl ?_
  refine zv_bipush (v := (nI 39)) hX dX8_readUnit_113 zi_b_39 ?_
  refine zv_cVI [.int (nI 39)] (rest := []) hX hT.2.2.2.2 (c_X8_is (zx_Y X) (nI 39) s) wv_X8_is c9_8 zd_76 wm_X8_144 rfl (by omega) (by omega) rfl (Nat.le_of_ble_eq_true rfl) dX8_readUnit_115 (fun r4 s5 => ?_)
  refine zv_if_ne (tgt := 139) hX dX8_readUnit_118 rfl ?_ ?_
  · exact zv_sub [1, 2, 0] rfl (b_X8_readUnit_139 hX hT hq_X8_readTruth hq_X8_readUnit v1 w0 s5)
  · refine zv_aload_n hX dX8_readUnit_121 1 rfl ?_
    refine zv_bipush (v := (nI 40)) hX dX8_readUnit_122 zi_b_40 ?_
    refine zv_cVI [.int (nI 40)] (rest := []) hX hT.2.2.2.2 (c_X8_is (zx_Y X) (nI 40) s5) wv_X8_is c9_8 zd_76 wm_X8_144 rfl (by omega) (by omega) rfl (Nat.le_of_ble_eq_true rfl) dX8_readUnit_124 (fun r6 s7 => ?_)
    refine zv_if_ne (tgt := 139) hX dX8_readUnit_127 rfl ?_ ?_
    · exact zv_sub [1, 2, 0] rfl (b_X8_readUnit_139 hX hT hq_X8_readTruth hq_X8_readUnit v1 w0 s7)
    · refine zv_aload_n hX dX8_readUnit_130 1 rfl ?_
      refine zv_bipush (v := (nI 41)) hX dX8_readUnit_131 zi_b_41 ?_
      refine zv_cVI [.int (nI 41)] (rest := []) hX hT.2.2.2.2 (c_X8_is (zx_Y X) (nI 41) s7) wv_X8_is c9_8 zd_76 wm_X8_144 rfl (by omega) (by omega) rfl (Nat.le_of_ble_eq_true rfl) dX8_readUnit_133 (fun r8 s9 => ?_)
      refine zv_if_eq (tgt := 146) hX dX8_readUnit_136 rfl ?_ ?_
      · refine zv_aload_n hX dX8_readUnit_146 1 rfl ?_
        refine zv_iconst (v := (nI 2)) hX dX8_readUnit_147 zi_i_2 ?_
        refine zv_cVV [.int (nI 2)] (rest := []) hX hT.2.2.2.2 (c_X8_fails (zx_Y X) (nI 2) s9) wv_X8_fails c9_8 zd_76 wm_X8_150 rfl (by omega) (by omega) rfl (Nat.le_of_ble_eq_true rfl) dX8_readUnit_148 (fun _ s10 => ?_)
        exact zv_sub [1, 2, 0] rfl (b_X8_readUnit_151 hX hT hq_X8_readTruth hq_X8_readUnit v1 w0 s10)
      · exact zv_sub [1, 2, 0] rfl (b_X8_readUnit_139 hX hT hq_X8_readTruth hq_X8_readUnit v1 w0 s9)
def f_X8_readUnit_72 (q_X8_readTruth : Int32 → zS → Option (Unit × zS)) (q_X8_readUnit : Int32 → zS → Option (Unit × zS))  (s : zS) : Option (Unit × zS) :=
  some ((), s)
set_option maxRecDepth 20000 in
theorem b_X8_readUnit_72 {X : zX} {dd : Nat} {q_X8_readTruth : Int32 → zS → Option (Unit × zS)} {q_X8_readUnit : Int32 → zS → Option (Unit × zS)} (hX : zx_ok X cX8_readUnit RX8 3) (hT : zx_rt X none (zR (72 + dd + 1) (1580 + (dd + 1) * 22))) (hq_X8_readTruth : ∀ (v1 : Int32) (s : zS), zM (zx_Y X) yX8_readTruth cX8_readTruth 2 none (zR (72 + dd) (1580 + dd * 22)) [.ref (zx_ad X 76), .int v1] s zrV (q_X8_readTruth v1 s)) (hq_X8_readUnit : ∀ (v1 : Int32) (s : zS), zM (zx_Y X) yX8_readUnit cX8_readUnit 3 none (zR (72 + dd) (1580 + dd * 22)) [.ref (zx_ad X 76), .int v1] s zrV (q_X8_readUnit v1 s)) : ∀  (s : zS), zV X (zq X zrV) 3 72 [] [] s (f_X8_readUnit_72 q_X8_readTruth q_X8_readUnit  s) := by
  have hDP : zDP = 64 := rfl
  intro  s
  unfold f_X8_readUnit_72
  exact zv_vret hX hT dX8_readUnit_72
def g_X8_readUnit (q_X8_readTruth : Int32 → zS → Option (Unit × zS)) (q_X8_readUnit : Int32 → zS → Option (Unit × zS)) (v1 : Int32) (s : zS) : Option (Unit × zS) :=
  zbd (f_X8_is (nI 16) s) fun r11 s12 =>
  if r11 = 0 then
  (zbd (f_X8_is (nI 37) s12) fun r13 s14 =>
  if r13 = 0 then
  (zbd (f_X8_readSum zDP v1 s14) fun _ s15 =>
  zbd (f_X8_is (nI 39) s15) fun r16 s17 =>
  if r16 = 0 then
  (zbd (f_X8_is (nI 40) s17) fun r18 s19 =>
  if r18 = 0 then
  (f_X8_readUnit_111 q_X8_readTruth q_X8_readUnit v1 (nI 3005) s19)
  else
  f_X8_readUnit_111 q_X8_readTruth q_X8_readUnit v1 (nI 3004) s19)
  else
  f_X8_readUnit_111 q_X8_readTruth q_X8_readUnit v1 (nI 3003) s17)
  else
  zbd (f_X8_goesIn v1 s14) fun r20 s21 =>
  if ¬ r20 = 0 then
  (zbd (q_X8_readTruth (v1 + (1 : Int32)) s21) fun _ s22 =>
  zbd (f_X8_eats (nI 38) s22) fun r23 s24 =>
  if ¬ r23 = 0 then
  (f_X8_readUnit_72 q_X8_readTruth q_X8_readUnit s24)
  else
  zbd (f_X8_fails (nI 2) s24) fun _ s25 =>
  f_X8_readUnit_72 q_X8_readTruth q_X8_readUnit s25)
  else
  some ((), s21))
  else
  zbd (f_X8_goesIn v1 s12) fun r26 s27 =>
  if ¬ r26 = 0 then
  (zbd (q_X8_readUnit (v1 + (1 : Int32)) s27) fun _ s28 =>
  zbd (f_X8_codes (nI 3006) s28) fun _ s29 =>
  some ((), s29))
  else
  some ((), s27)
set_option maxRecDepth 20000 in
theorem e_X8_readUnit {X : zX} {dd : Nat} {q_X8_readTruth : Int32 → zS → Option (Unit × zS)} {q_X8_readUnit : Int32 → zS → Option (Unit × zS)} (hX : zx_ok X cX8_readUnit RX8 3) (hT : zx_rt X none (zR (72 + dd + 1) (1580 + (dd + 1) * 22))) (hq_X8_readTruth : ∀ (v1 : Int32) (s : zS), zM (zx_Y X) yX8_readTruth cX8_readTruth 2 none (zR (72 + dd) (1580 + dd * 22)) [.ref (zx_ad X 76), .int v1] s zrV (q_X8_readTruth v1 s)) (hq_X8_readUnit : ∀ (v1 : Int32) (s : zS), zM (zx_Y X) yX8_readUnit cX8_readUnit 3 none (zR (72 + dd) (1580 + dd * 22)) [.ref (zx_ad X 76), .int v1] s zrV (q_X8_readUnit v1 s)) : ∀ (v1 : Int32) (s : zS), zV X (zq X zrV) 3 0 [(0, .ref (zx_ad X 76)), (1, .int v1)] [] s (g_X8_readUnit q_X8_readTruth q_X8_readUnit v1 s) := by
  have hDP : zDP = 64 := rfl
  intro v1 s
  unfold g_X8_readUnit
  refine zv_aload_n hX dX8_readUnit_0 0 rfl ?_
  refine zv_bipush (v := (nI 16)) hX dX8_readUnit_1 zi_b_16 ?_
  refine zv_cVI [.int (nI 16)] (rest := []) hX hT.2.2.2.2 (c_X8_is (zx_Y X) (nI 16) s) wv_X8_is c9_8 zd_76 wm_X8_144 rfl (by omega) (by omega) rfl (Nat.le_of_ble_eq_true rfl) dX8_readUnit_3 (fun r11 s12 => ?_)
  refine zv_if_eq (tgt := 33) hX dX8_readUnit_6 rfl ?_ ?_
  · refine zv_aload_n hX dX8_readUnit_33 0 rfl ?_
    refine zv_bipush (v := (nI 37)) hX dX8_readUnit_34 zi_b_37 ?_
    refine zv_cVI [.int (nI 37)] (rest := []) hX hT.2.2.2.2 (c_X8_is (zx_Y X) (nI 37) s12) wv_X8_is c9_8 zd_76 wm_X8_144 rfl (by omega) (by omega) rfl (Nat.le_of_ble_eq_true rfl) dX8_readUnit_36 (fun r13 s14 => ?_)
    refine zv_if_eq (tgt := 73) hX dX8_readUnit_39 rfl ?_ ?_
    · refine zv_aload_n hX dX8_readUnit_73 0 rfl ?_
      refine zv_iload_n hX dX8_readUnit_74 1 rfl ?_
      refine zv_cVV [.int v1] (rest := []) hX hT.2.2.2.2 (c_X8_readSum (zx_Y X) zDP v1 s14) wv_X8_readSum c9_8 zd_76 wm_X8_170 rfl (by omega) (by omega) rfl (Nat.le_of_ble_eq_true rfl) dX8_readUnit_75 (fun _ s15 => ?_)
      refine zv_aload_n hX dX8_readUnit_78 0 rfl ?_
      refine zv_bipush (v := (nI 39)) hX dX8_readUnit_79 zi_b_39 ?_
      refine zv_cVI [.int (nI 39)] (rest := []) hX hT.2.2.2.2 (c_X8_is (zx_Y X) (nI 39) s15) wv_X8_is c9_8 zd_76 wm_X8_144 rfl (by omega) (by omega) rfl (Nat.le_of_ble_eq_true rfl) dX8_readUnit_81 (fun r16 s17 => ?_)
      refine zv_if_eq (tgt := 93) hX dX8_readUnit_84 rfl ?_ ?_
      · refine zv_aload_n hX dX8_readUnit_93 0 rfl ?_
        refine zv_bipush (v := (nI 40)) hX dX8_readUnit_94 zi_b_40 ?_
        refine zv_cVI [.int (nI 40)] (rest := []) hX hT.2.2.2.2 (c_X8_is (zx_Y X) (nI 40) s17) wv_X8_is c9_8 zd_76 wm_X8_144 rfl (by omega) (by omega) rfl (Nat.le_of_ble_eq_true rfl) dX8_readUnit_96 (fun r18 s19 => ?_)
        refine zv_if_eq (tgt := 108) hX dX8_readUnit_99 rfl ?_ ?_
        · refine zv_sipush (v := (nI 3005)) hX dX8_readUnit_108 zi_s_3005 ?_
          exact b_X8_readUnit_111 hX hT hq_X8_readTruth hq_X8_readUnit v1 (nI 3005) s19
        · refine zv_sipush (v := (nI 3004)) hX dX8_readUnit_102 zi_s_3004 ?_
          refine zv_goto (tgt := 111) hX dX8_readUnit_105 rfl ?_
          exact b_X8_readUnit_111 hX hT hq_X8_readTruth hq_X8_readUnit v1 (nI 3004) s19
      · refine zv_sipush (v := (nI 3003)) hX dX8_readUnit_87 zi_s_3003 ?_
        refine zv_goto (tgt := 111) hX dX8_readUnit_90 rfl ?_
        exact b_X8_readUnit_111 hX hT hq_X8_readTruth hq_X8_readUnit v1 (nI 3003) s17
    · refine zv_aload_n hX dX8_readUnit_42 0 rfl ?_
      refine zv_iload_n hX dX8_readUnit_43 1 rfl ?_
      refine zv_cVI [.int v1] (rest := []) hX hT.2.2.2.2 (c_X8_goesIn (zx_Y X) v1 s14) wv_X8_goesIn c9_8 zd_76 wm_X8_167 rfl (by omega) (by omega) rfl (Nat.le_of_ble_eq_true rfl) dX8_readUnit_44 (fun r20 s21 => ?_)
      refine zv_if_ne (tgt := 51) hX dX8_readUnit_47 rfl ?_ ?_
      · refine zv_aload_n hX dX8_readUnit_51 0 rfl ?_
        refine zv_iload_n hX dX8_readUnit_52 1 rfl ?_
        refine zv_iconst (v := (1 : Int32)) hX dX8_readUnit_53 zi_i_1 ?_
        refine zv_iadd hX dX8_readUnit_54 ?_
        refine zv_cVV [.int (v1 + (1 : Int32))] (rest := []) hX hT.2.2.2.2 (hq_X8_readTruth (v1 + (1 : Int32)) s21) wv_X8_readTruth c9_8 zd_76 wm_X8_185 rfl (by omega) (by omega) rfl (Nat.le_of_ble_eq_true rfl) dX8_readUnit_55 (fun _ s22 => ?_)
        refine zv_aload_n hX dX8_readUnit_58 0 rfl ?_
        refine zv_bipush (v := (nI 38)) hX dX8_readUnit_59 zi_b_38 ?_
        refine zv_cVI [.int (nI 38)] (rest := []) hX hT.2.2.2.2 (c_X8_eats (zx_Y X) (nI 38) s22) wv_X8_eats c9_8 zd_76 wm_X8_173 rfl (by omega) (by omega) rfl (Nat.le_of_ble_eq_true rfl) dX8_readUnit_61 (fun r23 s24 => ?_)
        refine zv_if_ne (tgt := 72) hX dX8_readUnit_64 rfl ?_ ?_
        · exact zv_sub [] rfl (b_X8_readUnit_72 hX hT hq_X8_readTruth hq_X8_readUnit  s24)
        · refine zv_aload_n hX dX8_readUnit_67 0 rfl ?_
          refine zv_iconst (v := (nI 2)) hX dX8_readUnit_68 zi_i_2 ?_
          refine zv_cVV [.int (nI 2)] (rest := []) hX hT.2.2.2.2 (c_X8_fails (zx_Y X) (nI 2) s24) wv_X8_fails c9_8 zd_76 wm_X8_150 rfl (by omega) (by omega) rfl (Nat.le_of_ble_eq_true rfl) dX8_readUnit_69 (fun _ s25 => ?_)
          exact zv_sub [] rfl (b_X8_readUnit_72 hX hT hq_X8_readTruth hq_X8_readUnit  s25)
      · exact zv_vret hX hT dX8_readUnit_50
  · refine zv_aload_n hX dX8_readUnit_9 0 rfl ?_
    refine zv_iload_n hX dX8_readUnit_10 1 rfl ?_
    refine zv_cVI [.int v1] (rest := []) hX hT.2.2.2.2 (c_X8_goesIn (zx_Y X) v1 s12) wv_X8_goesIn c9_8 zd_76 wm_X8_167 rfl (by omega) (by omega) rfl (Nat.le_of_ble_eq_true rfl) dX8_readUnit_11 (fun r26 s27 => ?_)
    refine zv_if_ne (tgt := 18) hX dX8_readUnit_14 rfl ?_ ?_
    · refine zv_aload_n hX dX8_readUnit_18 0 rfl ?_
      refine zv_iload_n hX dX8_readUnit_19 1 rfl ?_
      refine zv_iconst (v := (1 : Int32)) hX dX8_readUnit_20 zi_i_1 ?_
      refine zv_iadd hX dX8_readUnit_21 ?_
      refine zv_cVV [.int (v1 + (1 : Int32))] (rest := []) hX hT.2.2.2.2 (hq_X8_readUnit (v1 + (1 : Int32)) s27) wv_X8_readUnit c9_8 zd_76 wm_X8_182 rfl (by omega) (by omega) rfl (Nat.le_of_ble_eq_true rfl) dX8_readUnit_22 (fun _ s28 => ?_)
      refine zv_aload_n hX dX8_readUnit_25 0 rfl ?_
      refine zv_sipush (v := (nI 3006)) hX dX8_readUnit_26 zi_s_3006 ?_
      refine zv_cVV [.int (nI 3006)] (rest := []) hX hT.2.2.2.2 (c_X8_codes (zx_Y X) (nI 3006) s28) wv_X8_codes c9_8 zd_76 wm_X8_161 rfl (by omega) (by omega) rfl (Nat.le_of_ble_eq_true rfl) dX8_readUnit_29 (fun _ s29 => ?_)
      exact zv_vret hX hT dX8_readUnit_32
    · exact zv_vret hX hT dX8_readUnit_17
def gg_X8_readBoth : Nat → (Int32 → zS → Option (Unit × zS)) × (Int32 → zS → Option (Unit × zS)) × (Int32 → zS → Option (Unit × zS))
  | 0 => (fun _ _ => none, fun _ _ => none, fun _ _ => none)
  | d + 1 => (g_X8_readBoth ((gg_X8_readBoth d).2.2), g_X8_readTruth ((gg_X8_readBoth d).1), g_X8_readUnit ((gg_X8_readBoth d).2.1) ((gg_X8_readBoth d).2.2))
def f_X8_readBoth (d : Nat) (v1 : Int32) (s : zS) : Option (Unit × zS) := (gg_X8_readBoth d).1 v1 s
def f_X8_readTruth (d : Nat) (v1 : Int32) (s : zS) : Option (Unit × zS) := (gg_X8_readBoth d).2.1 v1 s
def f_X8_readUnit (d : Nat) (v1 : Int32) (s : zS) : Option (Unit × zS) := (gg_X8_readBoth d).2.2 v1 s
theorem cc_X8_readBoth (Y : zG) : ∀ (d : Nat), (∀ (v1 : Int32) (s : zS), zM Y yX8_readBoth cX8_readBoth 2 none (zR (72 + d) (1580 + d * 22)) [.ref (zy_a Y 76), .int v1] s zrV (f_X8_readBoth d v1 s)) ∧ (∀ (v1 : Int32) (s : zS), zM Y yX8_readTruth cX8_readTruth 2 none (zR (72 + d) (1580 + d * 22)) [.ref (zy_a Y 76), .int v1] s zrV (f_X8_readTruth d v1 s)) ∧ (∀ (v1 : Int32) (s : zS), zM Y yX8_readUnit cX8_readUnit 3 none (zR (72 + d) (1580 + d * 22)) [.ref (zy_a Y 76), .int v1] s zrV (f_X8_readUnit d v1 s)) := by
  intro d
  induction d with
  | zero => exact ⟨fun v1 s rr h => (by simp [f_X8_readBoth, gg_X8_readBoth] at h), fun v1 s rr h => (by simp [f_X8_readTruth, gg_X8_readBoth] at h), fun v1 s rr h => (by simp [f_X8_readUnit, gg_X8_readBoth] at h)⟩
  | succ d ih =>
    refine ⟨?_, ?_, ?_⟩
    · intro v1 s
      refine zm_start (by decide +kernel) (Nat.le_of_ble_eq_true rfl) ?_
      intro X hY hT hX
      subst hY
      have hX : zx_ok X cX8_readBoth RX8 2 := hX
      exact e_X8_readBoth (dd := d) hX hT ih.2.2 v1 s
    · intro v1 s
      refine zm_start (by decide +kernel) (Nat.le_of_ble_eq_true rfl) ?_
      intro X hY hT hX
      subst hY
      have hX : zx_ok X cX8_readTruth RX8 2 := hX
      exact e_X8_readTruth (dd := d) hX hT ih.1 v1 s
    · intro v1 s
      refine zm_start (by decide +kernel) (Nat.le_of_ble_eq_true rfl) ?_
      intro X hY hT hX
      subst hY
      have hX : zx_ok X cX8_readUnit RX8 3 := hX
      exact e_X8_readUnit (dd := d) hX hT ih.2.1 ih.2.2 v1 s
theorem c_X8_readBoth (Y : zG) (d : Nat) (v1 : Int32) (s : zS) : zM Y yX8_readBoth cX8_readBoth 2 none (zR (72 + d) (1580 + d * 22)) [.ref (zy_a Y 76), .int v1] s zrV (f_X8_readBoth d v1 s) := (cc_X8_readBoth Y d).1 v1 s
theorem c_X8_readTruth (Y : zG) (d : Nat) (v1 : Int32) (s : zS) : zM Y yX8_readTruth cX8_readTruth 2 none (zR (72 + d) (1580 + d * 22)) [.ref (zy_a Y 76), .int v1] s zrV (f_X8_readTruth d v1 s) := (cc_X8_readBoth Y d).2.1 v1 s
theorem c_X8_readUnit (Y : zG) (d : Nat) (v1 : Int32) (s : zS) : zM Y yX8_readUnit cX8_readUnit 3 none (zR (72 + d) (1580 + d * 22)) [.ref (zy_a Y 76), .int v1] s zrV (f_X8_readUnit d v1 s) := (cc_X8_readBoth Y d).2.2 v1 s
theorem dX8_takes_0 : decode cX8_takes 0 = .ok (.aload_n 0, 1) := by decide +kernel
theorem dX8_takes_1 : decode cX8_takes 1 = .ok (.bipush 23, 2) := by decide +kernel
theorem dX8_takes_3 : decode cX8_takes 3 = .ok (.invokevirtual 144, 3) := by decide +kernel
theorem dX8_takes_6 : decode cX8_takes 6 = .ok (.ifCond .ne 11, 3) := by decide +kernel
theorem dX8_takes_9 : decode cX8_takes 9 = .ok (.aload_n 0, 1) := by decide +kernel
theorem dX8_takes_10 : decode cX8_takes 10 = .ok (.iconst 2, 1) := by decide +kernel
theorem dX8_takes_11 : decode cX8_takes 11 = .ok (.invokevirtual 150, 3) := by decide +kernel
theorem dX8_takes_14 : decode cX8_takes 14 = .ok (.goto 23, 3) := by decide +kernel
theorem dX8_takes_17 : decode cX8_takes 17 = .ok (.aload_n 0, 1) := by decide +kernel
theorem dX8_takes_18 : decode cX8_takes 18 = .ok (.getfield 133, 3) := by decide +kernel
theorem dX8_takes_21 : decode cX8_takes 21 = .ok (.i2l, 1) := by decide +kernel
theorem dX8_takes_22 : decode cX8_takes 22 = .ok (.iload_n 1, 1) := by decide +kernel
theorem dX8_takes_23 : decode cX8_takes 23 = .ok (.i2l, 1) := by decide +kernel
theorem dX8_takes_24 : decode cX8_takes 24 = .ok (.iload_n 2, 1) := by decide +kernel
theorem dX8_takes_25 : decode cX8_takes 25 = .ok (.i2l, 1) := by decide +kernel
theorem dX8_takes_26 : decode cX8_takes 26 = .ok (.invokestatic 154, 3) := by decide +kernel
theorem dX8_takes_29 : decode cX8_takes 29 = .ok (.ifCond .ne 8, 3) := by decide +kernel
theorem dX8_takes_32 : decode cX8_takes 32 = .ok (.aload_n 0, 1) := by decide +kernel
theorem dX8_takes_33 : decode cX8_takes 33 = .ok (.iconst 3, 1) := by decide +kernel
theorem dX8_takes_34 : decode cX8_takes 34 = .ok (.invokevirtual 150, 3) := by decide +kernel
theorem dX8_takes_37 : decode cX8_takes 37 = .ok (.aload_n 0, 1) := by decide +kernel
theorem dX8_takes_38 : decode cX8_takes 38 = .ok (.getfield 133, 3) := by decide +kernel
theorem dX8_takes_41 : decode cX8_takes 41 = .ok (.istore_n 3, 1) := by decide +kernel
theorem dX8_takes_42 : decode cX8_takes 42 = .ok (.aload_n 0, 1) := by decide +kernel
theorem dX8_takes_43 : decode cX8_takes 43 = .ok (.getfield 138, 3) := by decide +kernel
theorem dX8_takes_46 : decode cX8_takes 46 = .ok (.ifCond .ne 7, 3) := by decide +kernel
theorem dX8_takes_49 : decode cX8_takes 49 = .ok (.aload_n 0, 1) := by decide +kernel
theorem dX8_takes_50 : decode cX8_takes 50 = .ok (.invokevirtual 147, 3) := by decide +kernel
theorem dX8_takes_53 : decode cX8_takes 53 = .ok (.iload_n 3, 1) := by decide +kernel
theorem dX8_takes_54 : decode cX8_takes 54 = .ok (.ireturn, 1) := by decide +kernel
def f_X8_takes_53 (v3 : Int32) (s : zS) : Option (Int32 × zS) :=
  some (v3, s)
set_option maxRecDepth 20000 in
theorem b_X8_takes_53 {X : zX} (hX : zx_ok X cX8_takes RX8 4) (hT : zx_rt X (some .int) (zR 6 129)) : ∀ (v3 : Int32) (s : zS), zV X (zq X zrI) 4 53 [(3, .int v3)] [] s (f_X8_takes_53 v3 s) := by
  intro v3 s
  unfold f_X8_takes_53
  refine zv_iload_n hX dX8_takes_53 0 rfl ?_
  exact zv_ireti hX hT dX8_takes_54
def f_X8_takes_37  (s : zS) : Option (Int32 × zS) :=
  zb (s.1 76 10) fun x1 =>
  if ¬ (s.1 76 11) = 0 then
  (f_X8_takes_53 x1 s)
  else
  zbd (f_X8_next s) fun _ s2 =>
  f_X8_takes_53 x1 s2
set_option maxRecDepth 20000 in
theorem b_X8_takes_37 {X : zX} (hX : zx_ok X cX8_takes RX8 4) (hT : zx_rt X (some .int) (zR 6 129)) : ∀  (s : zS), zV X (zq X zrI) 4 37 [(0, .ref (zx_ad X 76))] [] s (f_X8_takes_37  s) := by
  intro  s
  unfold f_X8_takes_37
  refine zv_aload_n hX dX8_takes_37 0 rfl ?_
  refine zv_geti hX wf_X8_133 wc_8 zd_76 zj_76_10 c9_8 zr_76_10 dX8_takes_38 ?_
  refine zv_istB_n (lw := fun x1 => [(3, .int x1), (0, .ref (zx_ad X 76))]) hX dX8_takes_41 (by decide) (fun _ => rfl) (fun x1 => ?_)
  refine zv_aload_n hX dX8_takes_42 1 rfl ?_
  refine zv_geti hX wf_X8_138 wc_8 zd_76 zj_76_11 c9_8 zr_76_11 dX8_takes_43 ?_
  refine zv_if_ne (tgt := 53) hX dX8_takes_46 rfl ?_ ?_
  · exact zv_sub [0] rfl (b_X8_takes_53 hX hT x1 s)
  · refine zv_aload_n hX dX8_takes_49 1 rfl ?_
    refine zv_cVV [] (rest := []) hX hT.2.2.2.2 (c_X8_next (zx_Y X) s) wv_X8_next c9_8 zd_76 wm_X8_147 rfl (Nat.le_of_ble_eq_true rfl) (Nat.le_of_ble_eq_true rfl) rfl (Nat.le_of_ble_eq_true rfl) dX8_takes_50 (fun _ s2 => ?_)
    exact zv_sub [0] rfl (b_X8_takes_53 hX hT x1 s2)
def f_X8_takes (v1 : Int32) (v2 : Int32) (s : zS) : Option (Int32 × zS) :=
  zbd (f_X8_is (nI 23) s) fun r3 s4 =>
  if ¬ r3 = 0 then
  (zbd (f_X8_within ((s4.1 76 10).toInt64) (v1.toInt64) (v2.toInt64) s4) fun r5 s6 =>
  if ¬ r5 = 0 then
  (f_X8_takes_37 s6)
  else
  zbd (f_X8_fails (nI 3) s6) fun _ s7 =>
  f_X8_takes_37 s7)
  else
  zbd (f_X8_fails (nI 2) s4) fun _ s8 =>
  f_X8_takes_37 s8
set_option maxRecDepth 20000 in
theorem c_X8_takes (Y : zG) (v1 : Int32) (v2 : Int32) (s : zS) : zM Y yX8_takes cX8_takes 4 (some .int) (zR 6 129) [.ref (zy_a Y 76), .int v1, .int v2] s zrI (f_X8_takes v1 v2 s) := by
  refine zm_start (by decide +kernel) (Nat.le_of_ble_eq_true rfl) ?_
  intro X hY hT hX
  subst hY
  have hX : zx_ok X cX8_takes RX8 4 := hX
  show zV X (zq X zrI) 4 0 [(0, .ref (zx_ad X 76)), (1, .int v1), (2, .int v2)] [] s _
  unfold f_X8_takes
  refine zv_aload_n hX dX8_takes_0 0 rfl ?_
  refine zv_bipush (v := (nI 23)) hX dX8_takes_1 zi_b_23 ?_
  refine zv_cVI [.int (nI 23)] (rest := []) hX hT.2.2.2.2 (c_X8_is (zx_Y X) (nI 23) s) wv_X8_is c9_8 zd_76 wm_X8_144 rfl (Nat.le_of_ble_eq_true rfl) (Nat.le_of_ble_eq_true rfl) rfl (Nat.le_of_ble_eq_true rfl) dX8_takes_3 (fun r3 s4 => ?_)
  refine zv_if_ne (tgt := 17) hX dX8_takes_6 rfl ?_ ?_
  · refine zv_aload_n hX dX8_takes_17 0 rfl ?_
    refine zv_geti hX wf_X8_133 wc_8 zd_76 zj_76_10 c9_8 zr_76_10 dX8_takes_18 ?_
    refine zv_i2l hX dX8_takes_21 ?_
    refine zv_iload_n hX dX8_takes_22 1 rfl ?_
    refine zv_i2l hX dX8_takes_23 ?_
    refine zv_iload_n hX dX8_takes_24 2 rfl ?_
    refine zv_i2l hX dX8_takes_25 ?_
    refine zv_cSI [.long ((s4.1 76 10).toInt64), .long (v1.toInt64), .long (v2.toInt64)] (rest := []) hX hT.2.2.2.2 (c_X8_within (zx_Y X) ((s4.1 76 10).toInt64) (v1.toInt64) (v2.toInt64) s4) wv_X8_within wm_X8_154 rfl (Nat.le_of_ble_eq_true rfl) (Nat.le_of_ble_eq_true rfl) rfl (Nat.le_of_ble_eq_true rfl) dX8_takes_26 (fun r5 s6 => ?_)
    refine zv_if_ne (tgt := 37) hX dX8_takes_29 rfl ?_ ?_
    · exact zv_sub [0] rfl (b_X8_takes_37 hX hT  s6)
    · refine zv_aload_n hX dX8_takes_32 0 rfl ?_
      refine zv_iconst (v := (nI 3)) hX dX8_takes_33 zi_i_3 ?_
      refine zv_cVV [.int (nI 3)] (rest := []) hX hT.2.2.2.2 (c_X8_fails (zx_Y X) (nI 3) s6) wv_X8_fails c9_8 zd_76 wm_X8_150 rfl (Nat.le_of_ble_eq_true rfl) (Nat.le_of_ble_eq_true rfl) rfl (Nat.le_of_ble_eq_true rfl) dX8_takes_34 (fun _ s7 => ?_)
      exact zv_sub [0] rfl (b_X8_takes_37 hX hT  s7)
  · refine zv_aload_n hX dX8_takes_9 0 rfl ?_
    refine zv_iconst (v := (nI 2)) hX dX8_takes_10 zi_i_2 ?_
    refine zv_cVV [.int (nI 2)] (rest := []) hX hT.2.2.2.2 (c_X8_fails (zx_Y X) (nI 2) s4) wv_X8_fails c9_8 zd_76 wm_X8_150 rfl (Nat.le_of_ble_eq_true rfl) (Nat.le_of_ble_eq_true rfl) rfl (Nat.le_of_ble_eq_true rfl) dX8_takes_11 (fun _ s8 => ?_)
    refine zv_goto (tgt := 37) hX dX8_takes_14 rfl ?_
    exact zv_sub [0] rfl (b_X8_takes_37 hX hT  s8)
theorem dX8_readEngaged_0 : decode cX8_readEngaged 0 = .ok (.aload_n 0, 1) := by decide +kernel
theorem dX8_readEngaged_1 : decode cX8_readEngaged 1 = .ok (.invokevirtual 147, 3) := by decide +kernel
theorem dX8_readEngaged_4 : decode cX8_readEngaged 4 = .ok (.aload_n 0, 1) := by decide +kernel
theorem dX8_readEngaged_5 : decode cX8_readEngaged 5 = .ok (.bipush 23, 2) := by decide +kernel
theorem dX8_readEngaged_7 : decode cX8_readEngaged 7 = .ok (.invokevirtual 144, 3) := by decide +kernel
theorem dX8_readEngaged_10 : decode cX8_readEngaged 10 = .ok (.ifCond .eq 19, 3) := by decide +kernel
theorem dX8_readEngaged_13 : decode cX8_readEngaged 13 = .ok (.aload_n 0, 1) := by decide +kernel
theorem dX8_readEngaged_14 : decode cX8_readEngaged 14 = .ok (.aload_n 0, 1) := by decide +kernel
theorem dX8_readEngaged_15 : decode cX8_readEngaged 15 = .ok (.getfield 133, 3) := by decide +kernel
theorem dX8_readEngaged_18 : decode cX8_readEngaged 18 = .ok (.invokevirtual 198, 3) := by decide +kernel
theorem dX8_readEngaged_21 : decode cX8_readEngaged 21 = .ok (.ifCond .eq 8, 3) := by decide +kernel
theorem dX8_readEngaged_24 : decode cX8_readEngaged 24 = .ok (.aload_n 0, 1) := by decide +kernel
theorem dX8_readEngaged_25 : decode cX8_readEngaged 25 = .ok (.iconst 3, 1) := by decide +kernel
theorem dX8_readEngaged_26 : decode cX8_readEngaged 26 = .ok (.invokevirtual 150, 3) := by decide +kernel
theorem dX8_readEngaged_29 : decode cX8_readEngaged 29 = .ok (.aload_n 0, 1) := by decide +kernel
theorem dX8_readEngaged_30 : decode cX8_readEngaged 30 = .ok (.iconst 0, 1) := by decide +kernel
theorem dX8_readEngaged_31 : decode cX8_readEngaged 31 = .ok (.aload_n 0, 1) := by decide +kernel
theorem dX8_readEngaged_32 : decode cX8_readEngaged 32 = .ok (.getfield 24, 3) := by decide +kernel
theorem dX8_readEngaged_35 : decode cX8_readEngaged 35 = .ok (.iconst 1, 1) := by decide +kernel
theorem dX8_readEngaged_36 : decode cX8_readEngaged 36 = .ok (.iaload, 1) := by decide +kernel
theorem dX8_readEngaged_37 : decode cX8_readEngaged 37 = .ok (.iconst 1, 1) := by decide +kernel
theorem dX8_readEngaged_38 : decode cX8_readEngaged 38 = .ok (.isub, 1) := by decide +kernel
theorem dX8_readEngaged_39 : decode cX8_readEngaged 39 = .ok (.invokevirtual 191, 3) := by decide +kernel
theorem dX8_readEngaged_42 : decode cX8_readEngaged 42 = .ok (.istore_n 1, 1) := by decide +kernel
theorem dX8_readEngaged_43 : decode cX8_readEngaged 43 = .ok (.aload_n 0, 1) := by decide +kernel
theorem dX8_readEngaged_44 : decode cX8_readEngaged 44 = .ok (.bipush 23, 2) := by decide +kernel
theorem dX8_readEngaged_46 : decode cX8_readEngaged 46 = .ok (.invokevirtual 144, 3) := by decide +kernel
theorem dX8_readEngaged_49 : decode cX8_readEngaged 49 = .ok (.ifCond .eq 27, 3) := by decide +kernel
theorem dX8_readEngaged_52 : decode cX8_readEngaged 52 = .ok (.aload_n 0, 1) := by decide +kernel
theorem dX8_readEngaged_53 : decode cX8_readEngaged 53 = .ok (.getfield 133, 3) := by decide +kernel
theorem dX8_readEngaged_56 : decode cX8_readEngaged 56 = .ok (.iload_n 1, 1) := by decide +kernel
theorem dX8_readEngaged_57 : decode cX8_readEngaged 57 = .ok (.if_icmp .eq 14, 3) := by decide +kernel
theorem dX8_readEngaged_60 : decode cX8_readEngaged 60 = .ok (.aload_n 0, 1) := by decide +kernel
theorem dX8_readEngaged_61 : decode cX8_readEngaged 61 = .ok (.aload_n 0, 1) := by decide +kernel
theorem dX8_readEngaged_62 : decode cX8_readEngaged 62 = .ok (.getfield 133, 3) := by decide +kernel
theorem dX8_readEngaged_65 : decode cX8_readEngaged 65 = .ok (.invokevirtual 198, 3) := by decide +kernel
theorem dX8_readEngaged_68 : decode cX8_readEngaged 68 = .ok (.ifCond .eq 8, 3) := by decide +kernel
theorem dX8_readEngaged_71 : decode cX8_readEngaged 71 = .ok (.aload_n 0, 1) := by decide +kernel
theorem dX8_readEngaged_72 : decode cX8_readEngaged 72 = .ok (.iconst 3, 1) := by decide +kernel
theorem dX8_readEngaged_73 : decode cX8_readEngaged 73 = .ok (.invokevirtual 150, 3) := by decide +kernel
theorem dX8_readEngaged_76 : decode cX8_readEngaged 76 = .ok (.aload_n 0, 1) := by decide +kernel
theorem dX8_readEngaged_77 : decode cX8_readEngaged 77 = .ok (.iconst 0, 1) := by decide +kernel
theorem dX8_readEngaged_78 : decode cX8_readEngaged 78 = .ok (.aload_n 0, 1) := by decide +kernel
theorem dX8_readEngaged_79 : decode cX8_readEngaged 79 = .ok (.getfield 24, 3) := by decide +kernel
theorem dX8_readEngaged_82 : decode cX8_readEngaged 82 = .ok (.iconst 1, 1) := by decide +kernel
theorem dX8_readEngaged_83 : decode cX8_readEngaged 83 = .ok (.iaload, 1) := by decide +kernel
theorem dX8_readEngaged_84 : decode cX8_readEngaged 84 = .ok (.iconst 1, 1) := by decide +kernel
theorem dX8_readEngaged_85 : decode cX8_readEngaged 85 = .ok (.isub, 1) := by decide +kernel
theorem dX8_readEngaged_86 : decode cX8_readEngaged 86 = .ok (.invokevirtual 191, 3) := by decide +kernel
theorem dX8_readEngaged_89 : decode cX8_readEngaged 89 = .ok (.istore_n 2, 1) := by decide +kernel
theorem dX8_readEngaged_90 : decode cX8_readEngaged 90 = .ok (.aload_n 0, 1) := by decide +kernel
theorem dX8_readEngaged_91 : decode cX8_readEngaged 91 = .ok (.getfield 138, 3) := by decide +kernel
theorem dX8_readEngaged_94 : decode cX8_readEngaged 94 = .ok (.ifCond .eq 4, 3) := by decide +kernel
theorem dX8_readEngaged_97 : decode cX8_readEngaged 97 = .ok (.return_, 1) := by decide +kernel
theorem dX8_readEngaged_98 : decode cX8_readEngaged 98 = .ok (.aload_n 0, 1) := by decide +kernel
theorem dX8_readEngaged_99 : decode cX8_readEngaged 99 = .ok (.getfield 24, 3) := by decide +kernel
theorem dX8_readEngaged_102 : decode cX8_readEngaged 102 = .ok (.bipush 22, 2) := by decide +kernel
theorem dX8_readEngaged_104 : decode cX8_readEngaged 104 = .ok (.iload_n 1, 1) := by decide +kernel
theorem dX8_readEngaged_105 : decode cX8_readEngaged 105 = .ok (.iadd, 1) := by decide +kernel
theorem dX8_readEngaged_106 : decode cX8_readEngaged 106 = .ok (.iload_n 2, 1) := by decide +kernel
theorem dX8_readEngaged_107 : decode cX8_readEngaged 107 = .ok (.iastore, 1) := by decide +kernel
theorem dX8_readEngaged_108 : decode cX8_readEngaged 108 = .ok (.aload_n 0, 1) := by decide +kernel
theorem dX8_readEngaged_109 : decode cX8_readEngaged 109 = .ok (.getfield 24, 3) := by decide +kernel
theorem dX8_readEngaged_112 : decode cX8_readEngaged 112 = .ok (.bipush 22, 2) := by decide +kernel
theorem dX8_readEngaged_114 : decode cX8_readEngaged 114 = .ok (.iload_n 2, 1) := by decide +kernel
theorem dX8_readEngaged_115 : decode cX8_readEngaged 115 = .ok (.iadd, 1) := by decide +kernel
theorem dX8_readEngaged_116 : decode cX8_readEngaged 116 = .ok (.iload_n 1, 1) := by decide +kernel
theorem dX8_readEngaged_117 : decode cX8_readEngaged 117 = .ok (.iastore, 1) := by decide +kernel
theorem dX8_readEngaged_118 : decode cX8_readEngaged 118 = .ok (.return_, 1) := by decide +kernel
def f_X8_readEngaged_76 (v1 : Int32) (s : zS) : Option (Unit × zS) :=
  (zr_i s 80 (1 : Int32)).bind fun x1 =>
  zbd (f_X8_takes (0 : Int32) (x1 - (1 : Int32)) s) fun r2 s3 =>
  if (s3.1 76 11) = 0 then
  ((zw_i s3 80 ((nI 22) + v1) r2).bind fun s4 =>
  (zw_i s4 80 ((nI 22) + r2) v1).bind fun s5 =>
  some ((), s5))
  else
  some ((), s3)
set_option maxRecDepth 20000 in
theorem b_X8_readEngaged_76 {X : zX} (hX : zx_ok X cX8_readEngaged RX8 3) (hT : zx_rt X none (zR 7 152)) : ∀ (v1 : Int32) (s : zS), zV X (zq X zrV) 3 76 [(0, .ref (zx_ad X 76)), (1, .int v1)] [] s (f_X8_readEngaged_76 v1 s) := by
  intro v1 s
  unfold f_X8_readEngaged_76
  refine zv_aload_n hX dX8_readEngaged_76 0 rfl ?_
  refine zv_iconst (v := (0 : Int32)) hX dX8_readEngaged_77 zi_i_0 ?_
  refine zv_aload_n hX dX8_readEngaged_78 0 rfl ?_
  refine zv_geta hX wf_X8_24 wc_8 zd_76 zj_76_4 c9_8 zr_76_4 (by decide) dX8_readEngaged_79 ?_
  refine zv_iconst (v := (1 : Int32)) hX dX8_readEngaged_82 zi_i_1 ?_
  refine zv_iald hX dX8_readEngaged_83 (fun x1 => ?_)
  refine zv_iconst (v := (1 : Int32)) hX dX8_readEngaged_84 zi_i_1 ?_
  refine zv_isub hX dX8_readEngaged_85 ?_
  refine zv_cVI [.int (0 : Int32), .int (x1 - (1 : Int32))] (rest := []) hX hT.2.2.2.2 (c_X8_takes (zx_Y X) (0 : Int32) (x1 - (1 : Int32)) s) wv_X8_takes c9_8 zd_76 wm_X8_191 rfl (Nat.le_of_ble_eq_true rfl) (Nat.le_of_ble_eq_true rfl) rfl (Nat.le_of_ble_eq_true rfl) dX8_readEngaged_86 (fun r2 s3 => ?_)
  refine zv_istore_n (lv' := [(2, .int r2), (0, .ref (zx_ad X 76)), (1, .int v1)]) hX dX8_readEngaged_89 (by decide) rfl ?_
  refine zv_aload_n hX dX8_readEngaged_90 1 rfl ?_
  refine zv_geti hX wf_X8_138 wc_8 zd_76 zj_76_11 c9_8 zr_76_11 dX8_readEngaged_91 ?_
  refine zv_if_eq (tgt := 98) hX dX8_readEngaged_94 rfl ?_ ?_
  · refine zv_aload_n hX dX8_readEngaged_98 1 rfl ?_
    refine zv_geta hX wf_X8_24 wc_8 zd_76 zj_76_4 c9_8 zr_76_4 (by decide) dX8_readEngaged_99 ?_
    refine zv_bipush (v := (nI 22)) hX dX8_readEngaged_102 zi_b_22 ?_
    refine zv_iload_n hX dX8_readEngaged_104 2 rfl ?_
    refine zv_iadd hX dX8_readEngaged_105 ?_
    refine zv_iload_n hX dX8_readEngaged_106 0 rfl ?_
    refine zv_iast hX dX8_readEngaged_107 (fun s4 => ?_)
    refine zv_aload_n hX dX8_readEngaged_108 1 rfl ?_
    refine zv_geta hX wf_X8_24 wc_8 zd_76 zj_76_4 c9_8 zr_76_4 (by decide) dX8_readEngaged_109 ?_
    refine zv_bipush (v := (nI 22)) hX dX8_readEngaged_112 zi_b_22 ?_
    refine zv_iload_n hX dX8_readEngaged_114 0 rfl ?_
    refine zv_iadd hX dX8_readEngaged_115 ?_
    refine zv_iload_n hX dX8_readEngaged_116 2 rfl ?_
    refine zv_iast hX dX8_readEngaged_117 (fun s5 => ?_)
    exact zv_vret hX hT dX8_readEngaged_118
  · exact zv_vret hX hT dX8_readEngaged_97
def f_X8_readEngaged_71 (v1 : Int32) (s : zS) : Option (Unit × zS) :=
  zbd (f_X8_fails (nI 3) s) fun _ s6 =>
  f_X8_readEngaged_76 v1 s6
set_option maxRecDepth 20000 in
theorem b_X8_readEngaged_71 {X : zX} (hX : zx_ok X cX8_readEngaged RX8 3) (hT : zx_rt X none (zR 7 152)) : ∀ (v1 : Int32) (s : zS), zV X (zq X zrV) 3 71 [(0, .ref (zx_ad X 76)), (1, .int v1)] [] s (f_X8_readEngaged_71 v1 s) := by
  intro v1 s
  unfold f_X8_readEngaged_71
  refine zv_aload_n hX dX8_readEngaged_71 0 rfl ?_
  refine zv_iconst (v := (nI 3)) hX dX8_readEngaged_72 zi_i_3 ?_
  refine zv_cVV [.int (nI 3)] (rest := []) hX hT.2.2.2.2 (c_X8_fails (zx_Y X) (nI 3) s) wv_X8_fails c9_8 zd_76 wm_X8_150 rfl (Nat.le_of_ble_eq_true rfl) (Nat.le_of_ble_eq_true rfl) rfl (Nat.le_of_ble_eq_true rfl) dX8_readEngaged_73 (fun _ s6 => ?_)
  exact b_X8_readEngaged_76 hX hT v1 s6
def f_X8_readEngaged_29  (s : zS) : Option (Unit × zS) :=
  (zr_i s 80 (1 : Int32)).bind fun x7 =>
  zbd (f_X8_takes (0 : Int32) (x7 - (1 : Int32)) s) fun r8 s9 =>
  zbd (f_X8_is (nI 23) s9) fun r10 s11 =>
  if r10 = 0 then
  (f_X8_readEngaged_76 r8 s11)
  else
  if (s11.1 76 10) = r8 then
  (f_X8_readEngaged_71 r8 s11)
  else
  zbd (f_X8_isWithSome (s11.1 76 10) s11) fun r12 s13 =>
  if r12 = 0 then
  (f_X8_readEngaged_76 r8 s13)
  else
  f_X8_readEngaged_71 r8 s13
set_option maxRecDepth 20000 in
theorem b_X8_readEngaged_29 {X : zX} (hX : zx_ok X cX8_readEngaged RX8 3) (hT : zx_rt X none (zR 7 152)) : ∀  (s : zS), zV X (zq X zrV) 3 29 [(0, .ref (zx_ad X 76))] [] s (f_X8_readEngaged_29  s) := by
  intro  s
  unfold f_X8_readEngaged_29
  refine zv_aload_n hX dX8_readEngaged_29 0 rfl ?_
  refine zv_iconst (v := (0 : Int32)) hX dX8_readEngaged_30 zi_i_0 ?_
  refine zv_aload_n hX dX8_readEngaged_31 0 rfl ?_
  refine zv_geta hX wf_X8_24 wc_8 zd_76 zj_76_4 c9_8 zr_76_4 (by decide) dX8_readEngaged_32 ?_
  refine zv_iconst (v := (1 : Int32)) hX dX8_readEngaged_35 zi_i_1 ?_
  refine zv_iald hX dX8_readEngaged_36 (fun x7 => ?_)
  refine zv_iconst (v := (1 : Int32)) hX dX8_readEngaged_37 zi_i_1 ?_
  refine zv_isub hX dX8_readEngaged_38 ?_
  refine zv_cVI [.int (0 : Int32), .int (x7 - (1 : Int32))] (rest := []) hX hT.2.2.2.2 (c_X8_takes (zx_Y X) (0 : Int32) (x7 - (1 : Int32)) s) wv_X8_takes c9_8 zd_76 wm_X8_191 rfl (Nat.le_of_ble_eq_true rfl) (Nat.le_of_ble_eq_true rfl) rfl (Nat.le_of_ble_eq_true rfl) dX8_readEngaged_39 (fun r8 s9 => ?_)
  refine zv_istore_n (lv' := [(1, .int r8), (0, .ref (zx_ad X 76))]) hX dX8_readEngaged_42 (by decide) rfl ?_
  refine zv_aload_n hX dX8_readEngaged_43 1 rfl ?_
  refine zv_bipush (v := (nI 23)) hX dX8_readEngaged_44 zi_b_23 ?_
  refine zv_cVI [.int (nI 23)] (rest := []) hX hT.2.2.2.2 (c_X8_is (zx_Y X) (nI 23) s9) wv_X8_is c9_8 zd_76 wm_X8_144 rfl (Nat.le_of_ble_eq_true rfl) (Nat.le_of_ble_eq_true rfl) rfl (Nat.le_of_ble_eq_true rfl) dX8_readEngaged_46 (fun r10 s11 => ?_)
  refine zv_if_eq (tgt := 76) hX dX8_readEngaged_49 rfl ?_ ?_
  · exact zv_sub [1, 0] rfl (b_X8_readEngaged_76 hX hT r8 s11)
  · refine zv_aload_n hX dX8_readEngaged_52 1 rfl ?_
    refine zv_geti hX wf_X8_133 wc_8 zd_76 zj_76_10 c9_8 zr_76_10 dX8_readEngaged_53 ?_
    refine zv_iload_n hX dX8_readEngaged_56 0 rfl ?_
    refine zv_icmp_eq (tgt := 71) hX dX8_readEngaged_57 rfl ?_ ?_
    · exact zv_sub [1, 0] rfl (b_X8_readEngaged_71 hX hT r8 s11)
    · refine zv_aload_n hX dX8_readEngaged_60 1 rfl ?_
      refine zv_aload_n hX dX8_readEngaged_61 1 rfl ?_
      refine zv_geti hX wf_X8_133 wc_8 zd_76 zj_76_10 c9_8 zr_76_10 dX8_readEngaged_62 ?_
      refine zv_cVI [.int (s11.1 76 10)] (rest := []) hX hT.2.2.2.2 (c_X8_isWithSome (zx_Y X) (s11.1 76 10) s11) wv_X8_isWithSome c9_8 zd_76 wm_X8_198 rfl (Nat.le_of_ble_eq_true rfl) (Nat.le_of_ble_eq_true rfl) rfl (Nat.le_of_ble_eq_true rfl) dX8_readEngaged_65 (fun r12 s13 => ?_)
      refine zv_if_eq (tgt := 76) hX dX8_readEngaged_68 rfl ?_ ?_
      · exact zv_sub [1, 0] rfl (b_X8_readEngaged_76 hX hT r8 s13)
      · exact zv_sub [1, 0] rfl (b_X8_readEngaged_71 hX hT r8 s13)
def f_X8_readEngaged  (s : zS) : Option (Unit × zS) :=
  zbd (f_X8_next s) fun _ s14 =>
  zbd (f_X8_is (nI 23) s14) fun r15 s16 =>
  if r15 = 0 then
  (f_X8_readEngaged_29 s16)
  else
  zbd (f_X8_isWithSome (s16.1 76 10) s16) fun r17 s18 =>
  if r17 = 0 then
  (f_X8_readEngaged_29 s18)
  else
  zbd (f_X8_fails (nI 3) s18) fun _ s19 =>
  f_X8_readEngaged_29 s19
set_option maxRecDepth 20000 in
theorem c_X8_readEngaged (Y : zG)  (s : zS) : zM Y yX8_readEngaged cX8_readEngaged 3 none (zR 7 152) [.ref (zy_a Y 76)] s zrV (f_X8_readEngaged  s) := by
  refine zm_start (by decide +kernel) (Nat.le_of_ble_eq_true rfl) ?_
  intro X hY hT hX
  subst hY
  have hX : zx_ok X cX8_readEngaged RX8 3 := hX
  show zV X (zq X zrV) 3 0 [(0, .ref (zx_ad X 76))] [] s _
  unfold f_X8_readEngaged
  refine zv_aload_n hX dX8_readEngaged_0 0 rfl ?_
  refine zv_cVV [] (rest := []) hX hT.2.2.2.2 (c_X8_next (zx_Y X) s) wv_X8_next c9_8 zd_76 wm_X8_147 rfl (Nat.le_of_ble_eq_true rfl) (Nat.le_of_ble_eq_true rfl) rfl (Nat.le_of_ble_eq_true rfl) dX8_readEngaged_1 (fun _ s14 => ?_)
  refine zv_aload_n hX dX8_readEngaged_4 0 rfl ?_
  refine zv_bipush (v := (nI 23)) hX dX8_readEngaged_5 zi_b_23 ?_
  refine zv_cVI [.int (nI 23)] (rest := []) hX hT.2.2.2.2 (c_X8_is (zx_Y X) (nI 23) s14) wv_X8_is c9_8 zd_76 wm_X8_144 rfl (Nat.le_of_ble_eq_true rfl) (Nat.le_of_ble_eq_true rfl) rfl (Nat.le_of_ble_eq_true rfl) dX8_readEngaged_7 (fun r15 s16 => ?_)
  refine zv_if_eq (tgt := 29) hX dX8_readEngaged_10 rfl ?_ ?_
  · exact b_X8_readEngaged_29 hX hT  s16
  · refine zv_aload_n hX dX8_readEngaged_13 0 rfl ?_
    refine zv_aload_n hX dX8_readEngaged_14 0 rfl ?_
    refine zv_geti hX wf_X8_133 wc_8 zd_76 zj_76_10 c9_8 zr_76_10 dX8_readEngaged_15 ?_
    refine zv_cVI [.int (s16.1 76 10)] (rest := []) hX hT.2.2.2.2 (c_X8_isWithSome (zx_Y X) (s16.1 76 10) s16) wv_X8_isWithSome c9_8 zd_76 wm_X8_198 rfl (Nat.le_of_ble_eq_true rfl) (Nat.le_of_ble_eq_true rfl) rfl (Nat.le_of_ble_eq_true rfl) dX8_readEngaged_18 (fun r17 s18 => ?_)
    refine zv_if_eq (tgt := 29) hX dX8_readEngaged_21 rfl ?_ ?_
    · exact b_X8_readEngaged_29 hX hT  s18
    · refine zv_aload_n hX dX8_readEngaged_24 0 rfl ?_
      refine zv_iconst (v := (nI 3)) hX dX8_readEngaged_25 zi_i_3 ?_
      refine zv_cVV [.int (nI 3)] (rest := []) hX hT.2.2.2.2 (c_X8_fails (zx_Y X) (nI 3) s18) wv_X8_fails c9_8 zd_76 wm_X8_150 rfl (Nat.le_of_ble_eq_true rfl) (Nat.le_of_ble_eq_true rfl) rfl (Nat.le_of_ble_eq_true rfl) dX8_readEngaged_26 (fun _ s19 => ?_)
      exact b_X8_readEngaged_29 hX hT  s19
