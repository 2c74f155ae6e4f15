def f_X5_copyFrom_21_3_129 : Nat → Int32 → zS → Option (Unit × zS)
  | 0, _, _ => none
  | n + 1, v2, s =>
    if (nI 7) ≤ v2 then
    (some ((), s))
    else
    (zr_i s 28 v2).bind fun x1 =>
    (zw_i s 28 v2 (x1 + (1 : Int32))).bind fun s2 =>
    zb (v2 + (1 : Int32)) fun x3 =>
    f_X5_copyFrom_21_3_129 n x3 s2
set_option maxRecDepth 20000 in
theorem b_X5_copyFrom_21_3_129 {X : zX} (hX : zx_ok X cX5_copyFrom RX5 3) (hT : zx_rt X none (zR 2 101)) : ∀ (n : Nat) (v2 : Int32) (s : zS), zV X (zq X zrV) 3 129 [(0, .ref (zx_ad X 21)), (2, .int v2)] [] s (f_X5_copyFrom_21_3_129 n v2 s) := by
  intro n
  induction n with
  | zero => intro v2 s; exact zv_none
  | succ n ih =>
    intro v2 s
    rw [f_X5_copyFrom_21_3_129]
    refine zv_iload_n hX dX5_copyFrom_129 1 rfl ?_
    refine zv_bipush (v := (nI 7)) hX dX5_copyFrom_130 zi_b_7 ?_
    refine zv_icmp_ge (tgt := 151) hX dX5_copyFrom_132 rfl ?_ ?_
    · exact zv_vret hX hT dX5_copyFrom_151
    · refine zv_aload_n hX dX5_copyFrom_135 0 rfl ?_
      refine zv_geta hX wf_X5_30 wc_5 zd_21 zj_21_13 c9_5 zr_21_13 (by decide) dX5_copyFrom_136 ?_
      refine zv_iload_n hX dX5_copyFrom_139 1 rfl ?_
      refine zv_dup2 hX dX5_copyFrom_140 rfl rfl ?_
      refine zv_iald hX dX5_copyFrom_141 (fun x1 => ?_)
      refine zv_iconst (v := (1 : Int32)) hX dX5_copyFrom_142 zi_i_1 ?_
      refine zv_iadd hX dX5_copyFrom_143 ?_
      refine zv_iast hX dX5_copyFrom_144 (fun s2 => ?_)
      refine zv_iincB (lw := fun x3 => [(2, .int x3), (0, .ref (zx_ad X 21))]) hX dX5_copyFrom_145 1 rfl zi_i_1 (by decide) (fun _ => rfl) (fun x3 => ?_)
      refine zv_goto (tgt := 129) hX dX5_copyFrom_148 rfl ?_
      exact zv_sub [1, 0] rfl (ih x3 s2)
def f_X5_copyFrom_21_3  (s : zS) : Option (Unit × zS) :=
  zb (zs_i s 21 0 (s.1 3 0)) fun s4 =>
  zb (zs_i s4 21 1 (s4.1 3 1)) fun s5 =>
  zbd (f_X5_copyPeople 4 22 s5) fun _ s6 =>
  zbd (f_X5_copyPeople 5 23 s6) fun _ s7 =>
  zbd (f_X5_copyPeople 6 24 s7) fun _ s8 =>
  zbd (f_X5_copyPeople 7 25 s8) fun _ s9 =>
  zbd (f_X5_copyPeople 8 26 s9) fun _ s10 =>
  (zw_c s10 9 (0 : Int32) 27 (0 : Int32) (nI 900)).bind fun s11 =>
  zb (zs_i s11 21 8 (s11.1 3 8)) fun s12 =>
  zb (zs_i s12 21 9 (s12.1 3 9)) fun s13 =>
  zb (zs_i s13 21 10 (s13.1 3 10)) fun s14 =>
  zb (zs_i s14 21 11 (s14.1 3 11)) fun s15 =>
  zb (zs_i s15 21 12 (s15.1 3 12)) fun s16 =>
  f_X5_copyFrom_21_3_129 zFU (0 : Int32) s16
set_option maxRecDepth 20000 in
theorem c_X5_copyFrom_21_3 (Y : zG)  (s : zS) : zM Y yX5_copyFrom cX5_copyFrom 3 none (zR 2 101) [.ref (zy_a Y 21), .ref (zy_a Y 3)] s zrV (f_X5_copyFrom_21_3  s) := by
  refine zm_start (by decide +kernel) (Nat.le_of_ble_eq_true rfl) ?_
  intro X hY hT hX
  subst hY
  have hX : zx_ok X cX5_copyFrom RX5 3 := hX
  show zV X (zq X zrV) 3 0 [(0, .ref (zx_ad X 21)), (1, .ref (zx_ad X 3))] [] s _
  unfold f_X5_copyFrom_21_3
  refine zv_aload_n hX dX5_copyFrom_0 0 rfl ?_
  refine zv_aload_n hX dX5_copyFrom_1 1 rfl ?_
  refine zv_geti hX wf_X5_42 wc_5 zd_3 zj_3_0 c9_5 zr_3_0 dX5_copyFrom_2 ?_
  refine zv_puti hX wf_X5_42 wc_5 wk_5_0 zd_21 zj_21_0 c9_5 zr_21_0 dX5_copyFrom_5 (fun s4 => ?_)
  refine zv_aload_n hX dX5_copyFrom_8 0 rfl ?_
  refine zv_aload_n hX dX5_copyFrom_9 1 rfl ?_
  refine zv_geti hX wf_X5_54 wc_5 zd_3 zj_3_1 c9_5 zr_3_1 dX5_copyFrom_10 ?_
  refine zv_puti hX wf_X5_54 wc_5 wk_5_1 zd_21 zj_21_1 c9_5 zr_21_1 dX5_copyFrom_13 (fun s5 => ?_)
  refine zv_aload_n hX dX5_copyFrom_16 1 rfl ?_
  refine zv_geta hX wf_X5_9 wc_5 zd_3 zj_3_2 c9_5 zr_3_2 (by decide) dX5_copyFrom_17 ?_
  refine zv_aload_n hX dX5_copyFrom_20 0 rfl ?_
  refine zv_geta hX wf_X5_9 wc_5 zd_21 zj_21_2 c9_5 zr_21_2 (by decide) dX5_copyFrom_21 ?_
  refine zv_cSV [.ref (zx_ad X 4), .ref (zx_ad X 22)] (rest := []) hX hT.2.2.2.2 (c_X5_copyPeople (zx_Y X) 4 22 s5) wv_X5_copyPeople wm_X5_72 rfl (Nat.le_of_ble_eq_true rfl) (Nat.le_of_ble_eq_true rfl) rfl (Nat.le_of_ble_eq_true rfl) dX5_copyFrom_24 (fun _ s6 => ?_)
  refine zv_aload_n hX dX5_copyFrom_27 1 rfl ?_
  refine zv_geta hX wf_X5_15 wc_5 zd_3 zj_3_3 c9_5 zr_3_3 (by decide) dX5_copyFrom_28 ?_
  refine zv_aload_n hX dX5_copyFrom_31 0 rfl ?_
  refine zv_geta hX wf_X5_15 wc_5 zd_21 zj_21_3 c9_5 zr_21_3 (by decide) dX5_copyFrom_32 ?_
  refine zv_cSV [.ref (zx_ad X 5), .ref (zx_ad X 23)] (rest := []) hX hT.2.2.2.2 (c_X5_copyPeople (zx_Y X) 5 23 s6) wv_X5_copyPeople wm_X5_72 rfl (Nat.le_of_ble_eq_true rfl) (Nat.le_of_ble_eq_true rfl) rfl (Nat.le_of_ble_eq_true rfl) dX5_copyFrom_35 (fun _ s7 => ?_)
  refine zv_aload_n hX dX5_copyFrom_38 1 rfl ?_
  refine zv_geta hX wf_X5_18 wc_5 zd_3 zj_3_4 c9_5 zr_3_4 (by decide) dX5_copyFrom_39 ?_
  refine zv_aload_n hX dX5_copyFrom_42 0 rfl ?_
  refine zv_geta hX wf_X5_18 wc_5 zd_21 zj_21_4 c9_5 zr_21_4 (by decide) dX5_copyFrom_43 ?_
  refine zv_cSV [.ref (zx_ad X 6), .ref (zx_ad X 24)] (rest := []) hX hT.2.2.2.2 (c_X5_copyPeople (zx_Y X) 6 24 s7) wv_X5_copyPeople wm_X5_72 rfl (Nat.le_of_ble_eq_true rfl) (Nat.le_of_ble_eq_true rfl) rfl (Nat.le_of_ble_eq_true rfl) dX5_copyFrom_46 (fun _ s8 => ?_)
  refine zv_aload_n hX dX5_copyFrom_49 1 rfl ?_
  refine zv_geta hX wf_X5_21 wc_5 zd_3 zj_3_5 c9_5 zr_3_5 (by decide) dX5_copyFrom_50 ?_
  refine zv_aload_n hX dX5_copyFrom_53 0 rfl ?_
  refine zv_geta hX wf_X5_21 wc_5 zd_21 zj_21_5 c9_5 zr_21_5 (by decide) dX5_copyFrom_54 ?_
  refine zv_cSV [.ref (zx_ad X 7), .ref (zx_ad X 25)] (rest := []) hX hT.2.2.2.2 (c_X5_copyPeople (zx_Y X) 7 25 s8) wv_X5_copyPeople wm_X5_72 rfl (Nat.le_of_ble_eq_true rfl) (Nat.le_of_ble_eq_true rfl) rfl (Nat.le_of_ble_eq_true rfl) dX5_copyFrom_57 (fun _ s9 => ?_)
  refine zv_aload_n hX dX5_copyFrom_60 1 rfl ?_
  refine zv_geta hX wf_X5_24 wc_5 zd_3 zj_3_6 c9_5 zr_3_6 (by decide) dX5_copyFrom_61 ?_
  refine zv_aload_n hX dX5_copyFrom_64 0 rfl ?_
  refine zv_geta hX wf_X5_24 wc_5 zd_21 zj_21_6 c9_5 zr_21_6 (by decide) dX5_copyFrom_65 ?_
  refine zv_cSV [.ref (zx_ad X 8), .ref (zx_ad X 26)] (rest := []) hX hT.2.2.2.2 (c_X5_copyPeople (zx_Y X) 8 26 s9) wv_X5_copyPeople wm_X5_72 rfl (Nat.le_of_ble_eq_true rfl) (Nat.le_of_ble_eq_true rfl) rfl (Nat.le_of_ble_eq_true rfl) dX5_copyFrom_68 (fun _ s10 => ?_)
  refine zv_aload_n hX dX5_copyFrom_71 1 rfl ?_
  refine zv_geta hX wf_X5_27 wc_5 zd_3 zj_3_7 c9_5 zr_3_7 (by decide) dX5_copyFrom_72 ?_
  refine zv_iconst (v := (0 : Int32)) hX dX5_copyFrom_75 zi_i_0 ?_
  refine zv_aload_n hX dX5_copyFrom_76 0 rfl ?_
  refine zv_geta hX wf_X5_27 wc_5 zd_21 zj_21_7 c9_5 zr_21_7 (by decide) dX5_copyFrom_77 ?_
  refine zv_iconst (v := (0 : Int32)) hX dX5_copyFrom_80 zi_i_0 ?_
  refine zv_sipush (v := (nI 900)) hX dX5_copyFrom_81 zi_s_900 ?_
  refine zv_copy hX wm_X5_76 wa_native wa_static wa_init (by rw [hT.2.2.2.2]; exact Nat.le_of_ble_eq_true rfl) (by rw [hT.2.2.2.2]; exact Nat.le_of_ble_eq_true rfl) dX5_copyFrom_84 (fun s11 => ?_)
  refine zv_aload_n hX dX5_copyFrom_87 0 rfl ?_
  refine zv_aload_n hX dX5_copyFrom_88 1 rfl ?_
  refine zv_geti hX wf_X5_57 wc_5 zd_3 zj_3_8 c9_5 zr_3_8 dX5_copyFrom_89 ?_
  refine zv_puti hX wf_X5_57 wc_5 wk_5_8 zd_21 zj_21_8 c9_5 zr_21_8 dX5_copyFrom_92 (fun s12 => ?_)
  refine zv_aload_n hX dX5_copyFrom_95 0 rfl ?_
  refine zv_aload_n hX dX5_copyFrom_96 1 rfl ?_
  refine zv_geti hX wf_X5_60 wc_5 zd_3 zj_3_9 c9_5 zr_3_9 dX5_copyFrom_97 ?_
  refine zv_puti hX wf_X5_60 wc_5 wk_5_9 zd_21 zj_21_9 c9_5 zr_21_9 dX5_copyFrom_100 (fun s13 => ?_)
  refine zv_aload_n hX dX5_copyFrom_103 0 rfl ?_
  refine zv_aload_n hX dX5_copyFrom_104 1 rfl ?_
  refine zv_geti hX wf_X5_63 wc_5 zd_3 zj_3_10 c9_5 zr_3_10 dX5_copyFrom_105 ?_
  refine zv_puti hX wf_X5_63 wc_5 wk_5_10 zd_21 zj_21_10 c9_5 zr_21_10 dX5_copyFrom_108 (fun s14 => ?_)
  refine zv_aload_n hX dX5_copyFrom_111 0 rfl ?_
  refine zv_aload_n hX dX5_copyFrom_112 1 rfl ?_
  refine zv_geti hX wf_X5_66 wc_5 zd_3 zj_3_11 c9_5 zr_3_11 dX5_copyFrom_113 ?_
  refine zv_puti hX wf_X5_66 wc_5 wk_5_11 zd_21 zj_21_11 c9_5 zr_21_11 dX5_copyFrom_116 (fun s15 => ?_)
  refine zv_aload_n hX dX5_copyFrom_119 0 rfl ?_
  refine zv_aload_n hX dX5_copyFrom_120 1 rfl ?_
  refine zv_geti hX wf_X5_69 wc_5 zd_3 zj_3_12 c9_5 zr_3_12 dX5_copyFrom_121 ?_
  refine zv_puti hX wf_X5_69 wc_5 wk_5_12 zd_21 zj_21_12 c9_5 zr_21_12 dX5_copyFrom_124 (fun s16 => ?_)
  refine zv_iconst (v := (0 : Int32)) hX dX5_copyFrom_127 zi_i_0 ?_
  refine zv_istore_n (lv' := [(2, .int (0 : Int32)), (0, .ref (zx_ad X 21)), (1, .ref (zx_ad X 3))]) hX dX5_copyFrom_128 (by decide) rfl ?_
  exact zv_sub [1, 0] rfl (b_X5_copyFrom_21_3_129 hX hT zFU (0 : Int32) s16)
def f_X5_copyFrom_3_12_129 : Nat → Int32 → zS → Option (Unit × zS)
  | 0, _, _ => none
  | n + 1, v2, s =>
    if (nI 7) ≤ v2 then
    (some ((), s))
    else
    (zr_i s 10 v2).bind fun x1 =>
    (zw_i s 10 v2 (x1 + (1 : Int32))).bind fun s2 =>
    zb (v2 + (1 : Int32)) fun x3 =>
    f_X5_copyFrom_3_12_129 n x3 s2
set_option maxRecDepth 20000 in
theorem b_X5_copyFrom_3_12_129 {X : zX} (hX : zx_ok X cX5_copyFrom RX5 3) (hT : zx_rt X none (zR 2 101)) : ∀ (n : Nat) (v2 : Int32) (s : zS), zV X (zq X zrV) 3 129 [(0, .ref (zx_ad X 3)), (2, .int v2)] [] s (f_X5_copyFrom_3_12_129 n v2 s) := by
  intro n
  induction n with
  | zero => intro v2 s; exact zv_none
  | succ n ih =>
    intro v2 s
    rw [f_X5_copyFrom_3_12_129]
    refine zv_iload_n hX dX5_copyFrom_129 1 rfl ?_
    refine zv_bipush (v := (nI 7)) hX dX5_copyFrom_130 zi_b_7 ?_
    refine zv_icmp_ge (tgt := 151) hX dX5_copyFrom_132 rfl ?_ ?_
    · exact zv_vret hX hT dX5_copyFrom_151
    · refine zv_aload_n hX dX5_copyFrom_135 0 rfl ?_
      refine zv_geta hX wf_X5_30 wc_5 zd_3 zj_3_13 c9_5 zr_3_13 (by decide) dX5_copyFrom_136 ?_
      refine zv_iload_n hX dX5_copyFrom_139 1 rfl ?_
      refine zv_dup2 hX dX5_copyFrom_140 rfl rfl ?_
      refine zv_iald hX dX5_copyFrom_141 (fun x1 => ?_)
      refine zv_iconst (v := (1 : Int32)) hX dX5_copyFrom_142 zi_i_1 ?_
      refine zv_iadd hX dX5_copyFrom_143 ?_
      refine zv_iast hX dX5_copyFrom_144 (fun s2 => ?_)
      refine zv_iincB (lw := fun x3 => [(2, .int x3), (0, .ref (zx_ad X 3))]) hX dX5_copyFrom_145 1 rfl zi_i_1 (by decide) (fun _ => rfl) (fun x3 => ?_)
      refine zv_goto (tgt := 129) hX dX5_copyFrom_148 rfl ?_
      exact zv_sub [1, 0] rfl (ih x3 s2)
def f_X5_copyFrom_3_12  (s : zS) : Option (Unit × zS) :=
  zb (zs_i s 3 0 (s.1 12 0)) fun s4 =>
  zb (zs_i s4 3 1 (s4.1 12 1)) fun s5 =>
  zbd (f_X5_copyPeople 13 4 s5) fun _ s6 =>
  zbd (f_X5_copyPeople 14 5 s6) fun _ s7 =>
  zbd (f_X5_copyPeople 15 6 s7) fun _ s8 =>
  zbd (f_X5_copyPeople 16 7 s8) fun _ s9 =>
  zbd (f_X5_copyPeople 17 8 s9) fun _ s10 =>
  (zw_c s10 18 (0 : Int32) 9 (0 : Int32) (nI 900)).bind fun s11 =>
  zb (zs_i s11 3 8 (s11.1 12 8)) fun s12 =>
  zb (zs_i s12 3 9 (s12.1 12 9)) fun s13 =>
  zb (zs_i s13 3 10 (s13.1 12 10)) fun s14 =>
  zb (zs_i s14 3 11 (s14.1 12 11)) fun s15 =>
  zb (zs_i s15 3 12 (s15.1 12 12)) fun s16 =>
  f_X5_copyFrom_3_12_129 zFU (0 : Int32) s16
set_option maxRecDepth 20000 in
theorem c_X5_copyFrom_3_12 (Y : zG)  (s : zS) : zM Y yX5_copyFrom cX5_copyFrom 3 none (zR 2 101) [.ref (zy_a Y 3), .ref (zy_a Y 12)] s zrV (f_X5_copyFrom_3_12  s) := by
  refine zm_start (by decide +kernel) (Nat.le_of_ble_eq_true rfl) ?_
  intro X hY hT hX
  subst hY
  have hX : zx_ok X cX5_copyFrom RX5 3 := hX
  show zV X (zq X zrV) 3 0 [(0, .ref (zx_ad X 3)), (1, .ref (zx_ad X 12))] [] s _
  unfold f_X5_copyFrom_3_12
  refine zv_aload_n hX dX5_copyFrom_0 0 rfl ?_
  refine zv_aload_n hX dX5_copyFrom_1 1 rfl ?_
  refine zv_geti hX wf_X5_42 wc_5 zd_12 zj_12_0 c9_5 zr_12_0 dX5_copyFrom_2 ?_
  refine zv_puti hX wf_X5_42 wc_5 wk_5_0 zd_3 zj_3_0 c9_5 zr_3_0 dX5_copyFrom_5 (fun s4 => ?_)
  refine zv_aload_n hX dX5_copyFrom_8 0 rfl ?_
  refine zv_aload_n hX dX5_copyFrom_9 1 rfl ?_
  refine zv_geti hX wf_X5_54 wc_5 zd_12 zj_12_1 c9_5 zr_12_1 dX5_copyFrom_10 ?_
  refine zv_puti hX wf_X5_54 wc_5 wk_5_1 zd_3 zj_3_1 c9_5 zr_3_1 dX5_copyFrom_13 (fun s5 => ?_)
  refine zv_aload_n hX dX5_copyFrom_16 1 rfl ?_
  refine zv_geta hX wf_X5_9 wc_5 zd_12 zj_12_2 c9_5 zr_12_2 (by decide) dX5_copyFrom_17 ?_
  refine zv_aload_n hX dX5_copyFrom_20 0 rfl ?_
  refine zv_geta hX wf_X5_9 wc_5 zd_3 zj_3_2 c9_5 zr_3_2 (by decide) dX5_copyFrom_21 ?_
  refine zv_cSV [.ref (zx_ad X 13), .ref (zx_ad X 4)] (rest := []) hX hT.2.2.2.2 (c_X5_copyPeople (zx_Y X) 13 4 s5) wv_X5_copyPeople wm_X5_72 rfl (Nat.le_of_ble_eq_true rfl) (Nat.le_of_ble_eq_true rfl) rfl (Nat.le_of_ble_eq_true rfl) dX5_copyFrom_24 (fun _ s6 => ?_)
  refine zv_aload_n hX dX5_copyFrom_27 1 rfl ?_
  refine zv_geta hX wf_X5_15 wc_5 zd_12 zj_12_3 c9_5 zr_12_3 (by decide) dX5_copyFrom_28 ?_
  refine zv_aload_n hX dX5_copyFrom_31 0 rfl ?_
  refine zv_geta hX wf_X5_15 wc_5 zd_3 zj_3_3 c9_5 zr_3_3 (by decide) dX5_copyFrom_32 ?_
  refine zv_cSV [.ref (zx_ad X 14), .ref (zx_ad X 5)] (rest := []) hX hT.2.2.2.2 (c_X5_copyPeople (zx_Y X) 14 5 s6) wv_X5_copyPeople wm_X5_72 rfl (Nat.le_of_ble_eq_true rfl) (Nat.le_of_ble_eq_true rfl) rfl (Nat.le_of_ble_eq_true rfl) dX5_copyFrom_35 (fun _ s7 => ?_)
  refine zv_aload_n hX dX5_copyFrom_38 1 rfl ?_
  refine zv_geta hX wf_X5_18 wc_5 zd_12 zj_12_4 c9_5 zr_12_4 (by decide) dX5_copyFrom_39 ?_
  refine zv_aload_n hX dX5_copyFrom_42 0 rfl ?_
  refine zv_geta hX wf_X5_18 wc_5 zd_3 zj_3_4 c9_5 zr_3_4 (by decide) dX5_copyFrom_43 ?_
  refine zv_cSV [.ref (zx_ad X 15), .ref (zx_ad X 6)] (rest := []) hX hT.2.2.2.2 (c_X5_copyPeople (zx_Y X) 15 6 s7) wv_X5_copyPeople wm_X5_72 rfl (Nat.le_of_ble_eq_true rfl) (Nat.le_of_ble_eq_true rfl) rfl (Nat.le_of_ble_eq_true rfl) dX5_copyFrom_46 (fun _ s8 => ?_)
  refine zv_aload_n hX dX5_copyFrom_49 1 rfl ?_
  refine zv_geta hX wf_X5_21 wc_5 zd_12 zj_12_5 c9_5 zr_12_5 (by decide) dX5_copyFrom_50 ?_
  refine zv_aload_n hX dX5_copyFrom_53 0 rfl ?_
  refine zv_geta hX wf_X5_21 wc_5 zd_3 zj_3_5 c9_5 zr_3_5 (by decide) dX5_copyFrom_54 ?_
  refine zv_cSV [.ref (zx_ad X 16), .ref (zx_ad X 7)] (rest := []) hX hT.2.2.2.2 (c_X5_copyPeople (zx_Y X) 16 7 s8) wv_X5_copyPeople wm_X5_72 rfl (Nat.le_of_ble_eq_true rfl) (Nat.le_of_ble_eq_true rfl) rfl (Nat.le_of_ble_eq_true rfl) dX5_copyFrom_57 (fun _ s9 => ?_)
  refine zv_aload_n hX dX5_copyFrom_60 1 rfl ?_
  refine zv_geta hX wf_X5_24 wc_5 zd_12 zj_12_6 c9_5 zr_12_6 (by decide) dX5_copyFrom_61 ?_
  refine zv_aload_n hX dX5_copyFrom_64 0 rfl ?_
  refine zv_geta hX wf_X5_24 wc_5 zd_3 zj_3_6 c9_5 zr_3_6 (by decide) dX5_copyFrom_65 ?_
  refine zv_cSV [.ref (zx_ad X 17), .ref (zx_ad X 8)] (rest := []) hX hT.2.2.2.2 (c_X5_copyPeople (zx_Y X) 17 8 s9) wv_X5_copyPeople wm_X5_72 rfl (Nat.le_of_ble_eq_true rfl) (Nat.le_of_ble_eq_true rfl) rfl (Nat.le_of_ble_eq_true rfl) dX5_copyFrom_68 (fun _ s10 => ?_)
  refine zv_aload_n hX dX5_copyFrom_71 1 rfl ?_
  refine zv_geta hX wf_X5_27 wc_5 zd_12 zj_12_7 c9_5 zr_12_7 (by decide) dX5_copyFrom_72 ?_
  refine zv_iconst (v := (0 : Int32)) hX dX5_copyFrom_75 zi_i_0 ?_
  refine zv_aload_n hX dX5_copyFrom_76 0 rfl ?_
  refine zv_geta hX wf_X5_27 wc_5 zd_3 zj_3_7 c9_5 zr_3_7 (by decide) dX5_copyFrom_77 ?_
  refine zv_iconst (v := (0 : Int32)) hX dX5_copyFrom_80 zi_i_0 ?_
  refine zv_sipush (v := (nI 900)) hX dX5_copyFrom_81 zi_s_900 ?_
  refine zv_copy hX wm_X5_76 wa_native wa_static wa_init (by rw [hT.2.2.2.2]; exact Nat.le_of_ble_eq_true rfl) (by rw [hT.2.2.2.2]; exact Nat.le_of_ble_eq_true rfl) dX5_copyFrom_84 (fun s11 => ?_)
  refine zv_aload_n hX dX5_copyFrom_87 0 rfl ?_
  refine zv_aload_n hX dX5_copyFrom_88 1 rfl ?_
  refine zv_geti hX wf_X5_57 wc_5 zd_12 zj_12_8 c9_5 zr_12_8 dX5_copyFrom_89 ?_
  refine zv_puti hX wf_X5_57 wc_5 wk_5_8 zd_3 zj_3_8 c9_5 zr_3_8 dX5_copyFrom_92 (fun s12 => ?_)
  refine zv_aload_n hX dX5_copyFrom_95 0 rfl ?_
  refine zv_aload_n hX dX5_copyFrom_96 1 rfl ?_
  refine zv_geti hX wf_X5_60 wc_5 zd_12 zj_12_9 c9_5 zr_12_9 dX5_copyFrom_97 ?_
  refine zv_puti hX wf_X5_60 wc_5 wk_5_9 zd_3 zj_3_9 c9_5 zr_3_9 dX5_copyFrom_100 (fun s13 => ?_)
  refine zv_aload_n hX dX5_copyFrom_103 0 rfl ?_
  refine zv_aload_n hX dX5_copyFrom_104 1 rfl ?_
  refine zv_geti hX wf_X5_63 wc_5 zd_12 zj_12_10 c9_5 zr_12_10 dX5_copyFrom_105 ?_
  refine zv_puti hX wf_X5_63 wc_5 wk_5_10 zd_3 zj_3_10 c9_5 zr_3_10 dX5_copyFrom_108 (fun s14 => ?_)
  refine zv_aload_n hX dX5_copyFrom_111 0 rfl ?_
  refine zv_aload_n hX dX5_copyFrom_112 1 rfl ?_
  refine zv_geti hX wf_X5_66 wc_5 zd_12 zj_12_11 c9_5 zr_12_11 dX5_copyFrom_113 ?_
  refine zv_puti hX wf_X5_66 wc_5 wk_5_11 zd_3 zj_3_11 c9_5 zr_3_11 dX5_copyFrom_116 (fun s15 => ?_)
  refine zv_aload_n hX dX5_copyFrom_119 0 rfl ?_
  refine zv_aload_n hX dX5_copyFrom_120 1 rfl ?_
  refine zv_geti hX wf_X5_69 wc_5 zd_12 zj_12_12 c9_5 zr_12_12 dX5_copyFrom_121 ?_
  refine zv_puti hX wf_X5_69 wc_5 wk_5_12 zd_3 zj_3_12 c9_5 zr_3_12 dX5_copyFrom_124 (fun s16 => ?_)
  refine zv_iconst (v := (0 : Int32)) hX dX5_copyFrom_127 zi_i_0 ?_
  refine zv_istore_n (lv' := [(2, .int (0 : Int32)), (0, .ref (zx_ad X 3)), (1, .ref (zx_ad X 12))]) hX dX5_copyFrom_128 (by decide) rfl ?_
  exact zv_sub [1, 0] rfl (b_X5_copyFrom_3_12_129 hX hT zFU (0 : Int32) s16)
def f_X5_copyFrom_3_21_129 : Nat → Int32 → zS → Option (Unit × zS)
  | 0, _, _ => none
  | n + 1, v2, s =>
    if (nI 7) ≤ v2 then
    (some ((), s))
    else
    (zr_i s 10 v2).bind fun x1 =>
    (zw_i s 10 v2 (x1 + (1 : Int32))).bind fun s2 =>
    zb (v2 + (1 : Int32)) fun x3 =>
    f_X5_copyFrom_3_21_129 n x3 s2
set_option maxRecDepth 20000 in
theorem b_X5_copyFrom_3_21_129 {X : zX} (hX : zx_ok X cX5_copyFrom RX5 3) (hT : zx_rt X none (zR 2 101)) : ∀ (n : Nat) (v2 : Int32) (s : zS), zV X (zq X zrV) 3 129 [(0, .ref (zx_ad X 3)), (2, .int v2)] [] s (f_X5_copyFrom_3_21_129 n v2 s) := by
  intro n
  induction n with
  | zero => intro v2 s; exact zv_none
  | succ n ih =>
    intro v2 s
    rw [f_X5_copyFrom_3_21_129]
    refine zv_iload_n hX dX5_copyFrom_129 1 rfl ?_
    refine zv_bipush (v := (nI 7)) hX dX5_copyFrom_130 zi_b_7 ?_
    refine zv_icmp_ge (tgt := 151) hX dX5_copyFrom_132 rfl ?_ ?_
    · exact zv_vret hX hT dX5_copyFrom_151
    · refine zv_aload_n hX dX5_copyFrom_135 0 rfl ?_
      refine zv_geta hX wf_X5_30 wc_5 zd_3 zj_3_13 c9_5 zr_3_13 (by decide) dX5_copyFrom_136 ?_
      refine zv_iload_n hX dX5_copyFrom_139 1 rfl ?_
      refine zv_dup2 hX dX5_copyFrom_140 rfl rfl ?_
      refine zv_iald hX dX5_copyFrom_141 (fun x1 => ?_)
      refine zv_iconst (v := (1 : Int32)) hX dX5_copyFrom_142 zi_i_1 ?_
      refine zv_iadd hX dX5_copyFrom_143 ?_
      refine zv_iast hX dX5_copyFrom_144 (fun s2 => ?_)
      refine zv_iincB (lw := fun x3 => [(2, .int x3), (0, .ref (zx_ad X 3))]) hX dX5_copyFrom_145 1 rfl zi_i_1 (by decide) (fun _ => rfl) (fun x3 => ?_)
      refine zv_goto (tgt := 129) hX dX5_copyFrom_148 rfl ?_
      exact zv_sub [1, 0] rfl (ih x3 s2)
def f_X5_copyFrom_3_21  (s : zS) : Option (Unit × zS) :=
  zb (zs_i s 3 0 (s.1 21 0)) fun s4 =>
  zb (zs_i s4 3 1 (s4.1 21 1)) fun s5 =>
  zbd (f_X5_copyPeople 22 4 s5) fun _ s6 =>
  zbd (f_X5_copyPeople 23 5 s6) fun _ s7 =>
  zbd (f_X5_copyPeople 24 6 s7) fun _ s8 =>
  zbd (f_X5_copyPeople 25 7 s8) fun _ s9 =>
  zbd (f_X5_copyPeople 26 8 s9) fun _ s10 =>
  (zw_c s10 27 (0 : Int32) 9 (0 : Int32) (nI 900)).bind fun s11 =>
  zb (zs_i s11 3 8 (s11.1 21 8)) fun s12 =>
  zb (zs_i s12 3 9 (s12.1 21 9)) fun s13 =>
  zb (zs_i s13 3 10 (s13.1 21 10)) fun s14 =>
  zb (zs_i s14 3 11 (s14.1 21 11)) fun s15 =>
  zb (zs_i s15 3 12 (s15.1 21 12)) fun s16 =>
  f_X5_copyFrom_3_21_129 zFU (0 : Int32) s16
set_option maxRecDepth 20000 in
theorem c_X5_copyFrom_3_21 (Y : zG)  (s : zS) : zM Y yX5_copyFrom cX5_copyFrom 3 none (zR 2 101) [.ref (zy_a Y 3), .ref (zy_a Y 21)] s zrV (f_X5_copyFrom_3_21  s) := by
  refine zm_start (by decide +kernel) (Nat.le_of_ble_eq_true rfl) ?_
  intro X hY hT hX
  subst hY
  have hX : zx_ok X cX5_copyFrom RX5 3 := hX
  show zV X (zq X zrV) 3 0 [(0, .ref (zx_ad X 3)), (1, .ref (zx_ad X 21))] [] s _
  unfold f_X5_copyFrom_3_21
  refine zv_aload_n hX dX5_copyFrom_0 0 rfl ?_
  refine zv_aload_n hX dX5_copyFrom_1 1 rfl ?_
  refine zv_geti hX wf_X5_42 wc_5 zd_21 zj_21_0 c9_5 zr_21_0 dX5_copyFrom_2 ?_
  refine zv_puti hX wf_X5_42 wc_5 wk_5_0 zd_3 zj_3_0 c9_5 zr_3_0 dX5_copyFrom_5 (fun s4 => ?_)
  refine zv_aload_n hX dX5_copyFrom_8 0 rfl ?_
  refine zv_aload_n hX dX5_copyFrom_9 1 rfl ?_
  refine zv_geti hX wf_X5_54 wc_5 zd_21 zj_21_1 c9_5 zr_21_1 dX5_copyFrom_10 ?_
  refine zv_puti hX wf_X5_54 wc_5 wk_5_1 zd_3 zj_3_1 c9_5 zr_3_1 dX5_copyFrom_13 (fun s5 => ?_)
  refine zv_aload_n hX dX5_copyFrom_16 1 rfl ?_
  refine zv_geta hX wf_X5_9 wc_5 zd_21 zj_21_2 c9_5 zr_21_2 (by decide) dX5_copyFrom_17 ?_
  refine zv_aload_n hX dX5_copyFrom_20 0 rfl ?_
  refine zv_geta hX wf_X5_9 wc_5 zd_3 zj_3_2 c9_5 zr_3_2 (by decide) dX5_copyFrom_21 ?_
  refine zv_cSV [.ref (zx_ad X 22), .ref (zx_ad X 4)] (rest := []) hX hT.2.2.2.2 (c_X5_copyPeople (zx_Y X) 22 4 s5) wv_X5_copyPeople wm_X5_72 rfl (Nat.le_of_ble_eq_true rfl) (Nat.le_of_ble_eq_true rfl) rfl (Nat.le_of_ble_eq_true rfl) dX5_copyFrom_24 (fun _ s6 => ?_)
  refine zv_aload_n hX dX5_copyFrom_27 1 rfl ?_
  refine zv_geta hX wf_X5_15 wc_5 zd_21 zj_21_3 c9_5 zr_21_3 (by decide) dX5_copyFrom_28 ?_
  refine zv_aload_n hX dX5_copyFrom_31 0 rfl ?_
  refine zv_geta hX wf_X5_15 wc_5 zd_3 zj_3_3 c9_5 zr_3_3 (by decide) dX5_copyFrom_32 ?_
  refine zv_cSV [.ref (zx_ad X 23), .ref (zx_ad X 5)] (rest := []) hX hT.2.2.2.2 (c_X5_copyPeople (zx_Y X) 23 5 s6) wv_X5_copyPeople wm_X5_72 rfl (Nat.le_of_ble_eq_true rfl) (Nat.le_of_ble_eq_true rfl) rfl (Nat.le_of_ble_eq_true rfl) dX5_copyFrom_35 (fun _ s7 => ?_)
  refine zv_aload_n hX dX5_copyFrom_38 1 rfl ?_
  refine zv_geta hX wf_X5_18 wc_5 zd_21 zj_21_4 c9_5 zr_21_4 (by decide) dX5_copyFrom_39 ?_
  refine zv_aload_n hX dX5_copyFrom_42 0 rfl ?_
  refine zv_geta hX wf_X5_18 wc_5 zd_3 zj_3_4 c9_5 zr_3_4 (by decide) dX5_copyFrom_43 ?_
  refine zv_cSV [.ref (zx_ad X 24), .ref (zx_ad X 6)] (rest := []) hX hT.2.2.2.2 (c_X5_copyPeople (zx_Y X) 24 6 s7) wv_X5_copyPeople wm_X5_72 rfl (Nat.le_of_ble_eq_true rfl) (Nat.le_of_ble_eq_true rfl) rfl (Nat.le_of_ble_eq_true rfl) dX5_copyFrom_46 (fun _ s8 => ?_)
  refine zv_aload_n hX dX5_copyFrom_49 1 rfl ?_
  refine zv_geta hX wf_X5_21 wc_5 zd_21 zj_21_5 c9_5 zr_21_5 (by decide) dX5_copyFrom_50 ?_
  refine zv_aload_n hX dX5_copyFrom_53 0 rfl ?_
  refine zv_geta hX wf_X5_21 wc_5 zd_3 zj_3_5 c9_5 zr_3_5 (by decide) dX5_copyFrom_54 ?_
  refine zv_cSV [.ref (zx_ad X 25), .ref (zx_ad X 7)] (rest := []) hX hT.2.2.2.2 (c_X5_copyPeople (zx_Y X) 25 7 s8) wv_X5_copyPeople wm_X5_72 rfl (Nat.le_of_ble_eq_true rfl) (Nat.le_of_ble_eq_true rfl) rfl (Nat.le_of_ble_eq_true rfl) dX5_copyFrom_57 (fun _ s9 => ?_)
  refine zv_aload_n hX dX5_copyFrom_60 1 rfl ?_
  refine zv_geta hX wf_X5_24 wc_5 zd_21 zj_21_6 c9_5 zr_21_6 (by decide) dX5_copyFrom_61 ?_
  refine zv_aload_n hX dX5_copyFrom_64 0 rfl ?_
  refine zv_geta hX wf_X5_24 wc_5 zd_3 zj_3_6 c9_5 zr_3_6 (by decide) dX5_copyFrom_65 ?_
  refine zv_cSV [.ref (zx_ad X 26), .ref (zx_ad X 8)] (rest := []) hX hT.2.2.2.2 (c_X5_copyPeople (zx_Y X) 26 8 s9) wv_X5_copyPeople wm_X5_72 rfl (Nat.le_of_ble_eq_true rfl) (Nat.le_of_ble_eq_true rfl) rfl (Nat.le_of_ble_eq_true rfl) dX5_copyFrom_68 (fun _ s10 => ?_)
  refine zv_aload_n hX dX5_copyFrom_71 1 rfl ?_
  refine zv_geta hX wf_X5_27 wc_5 zd_21 zj_21_7 c9_5 zr_21_7 (by decide) dX5_copyFrom_72 ?_
  refine zv_iconst (v := (0 : Int32)) hX dX5_copyFrom_75 zi_i_0 ?_
  refine zv_aload_n hX dX5_copyFrom_76 0 rfl ?_
  refine zv_geta hX wf_X5_27 wc_5 zd_3 zj_3_7 c9_5 zr_3_7 (by decide) dX5_copyFrom_77 ?_
  refine zv_iconst (v := (0 : Int32)) hX dX5_copyFrom_80 zi_i_0 ?_
  refine zv_sipush (v := (nI 900)) hX dX5_copyFrom_81 zi_s_900 ?_
  refine zv_copy hX wm_X5_76 wa_native wa_static wa_init (by rw [hT.2.2.2.2]; exact Nat.le_of_ble_eq_true rfl) (by rw [hT.2.2.2.2]; exact Nat.le_of_ble_eq_true rfl) dX5_copyFrom_84 (fun s11 => ?_)
  refine zv_aload_n hX dX5_copyFrom_87 0 rfl ?_
  refine zv_aload_n hX dX5_copyFrom_88 1 rfl ?_
  refine zv_geti hX wf_X5_57 wc_5 zd_21 zj_21_8 c9_5 zr_21_8 dX5_copyFrom_89 ?_
  refine zv_puti hX wf_X5_57 wc_5 wk_5_8 zd_3 zj_3_8 c9_5 zr_3_8 dX5_copyFrom_92 (fun s12 => ?_)
  refine zv_aload_n hX dX5_copyFrom_95 0 rfl ?_
  refine zv_aload_n hX dX5_copyFrom_96 1 rfl ?_
  refine zv_geti hX wf_X5_60 wc_5 zd_21 zj_21_9 c9_5 zr_21_9 dX5_copyFrom_97 ?_
  refine zv_puti hX wf_X5_60 wc_5 wk_5_9 zd_3 zj_3_9 c9_5 zr_3_9 dX5_copyFrom_100 (fun s13 => ?_)
  refine zv_aload_n hX dX5_copyFrom_103 0 rfl ?_
  refine zv_aload_n hX dX5_copyFrom_104 1 rfl ?_
  refine zv_geti hX wf_X5_63 wc_5 zd_21 zj_21_10 c9_5 zr_21_10 dX5_copyFrom_105 ?_
  refine zv_puti hX wf_X5_63 wc_5 wk_5_10 zd_3 zj_3_10 c9_5 zr_3_10 dX5_copyFrom_108 (fun s14 => ?_)
  refine zv_aload_n hX dX5_copyFrom_111 0 rfl ?_
  refine zv_aload_n hX dX5_copyFrom_112 1 rfl ?_
  refine zv_geti hX wf_X5_66 wc_5 zd_21 zj_21_11 c9_5 zr_21_11 dX5_copyFrom_113 ?_
  refine zv_puti hX wf_X5_66 wc_5 wk_5_11 zd_3 zj_3_11 c9_5 zr_3_11 dX5_copyFrom_116 (fun s15 => ?_)
  refine zv_aload_n hX dX5_copyFrom_119 0 rfl ?_
  refine zv_aload_n hX dX5_copyFrom_120 1 rfl ?_
  refine zv_geti hX wf_X5_69 wc_5 zd_21 zj_21_12 c9_5 zr_21_12 dX5_copyFrom_121 ?_
  refine zv_puti hX wf_X5_69 wc_5 wk_5_12 zd_3 zj_3_12 c9_5 zr_3_12 dX5_copyFrom_124 (fun s16 => ?_)
  refine zv_iconst (v := (0 : Int32)) hX dX5_copyFrom_127 zi_i_0 ?_
  refine zv_istore_n (lv' := [(2, .int (0 : Int32)), (0, .ref (zx_ad X 3)), (1, .ref (zx_ad X 21))]) hX dX5_copyFrom_128 (by decide) rfl ?_
  exact zv_sub [1, 0] rfl (b_X5_copyFrom_3_21_129 hX hT zFU (0 : Int32) s16)
def f_X5_copyFrom_3_31_129 : Nat → Int32 → zS → Option (Unit × zS)
  | 0, _, _ => none
  | n + 1, v2, s =>
    if (nI 7) ≤ v2 then
    (some ((), s))
    else
    (zr_i s 10 v2).bind fun x1 =>
    (zw_i s 10 v2 (x1 + (1 : Int32))).bind fun s2 =>
    zb (v2 + (1 : Int32)) fun x3 =>
    f_X5_copyFrom_3_31_129 n x3 s2
set_option maxRecDepth 20000 in
theorem b_X5_copyFrom_3_31_129 {X : zX} (hX : zx_ok X cX5_copyFrom RX5 3) (hT : zx_rt X none (zR 2 101)) : ∀ (n : Nat) (v2 : Int32) (s : zS), zV X (zq X zrV) 3 129 [(0, .ref (zx_ad X 3)), (2, .int v2)] [] s (f_X5_copyFrom_3_31_129 n v2 s) := by
  intro n
  induction n with
  | zero => intro v2 s; exact zv_none
  | succ n ih =>
    intro v2 s
    rw [f_X5_copyFrom_3_31_129]
    refine zv_iload_n hX dX5_copyFrom_129 1 rfl ?_
    refine zv_bipush (v := (nI 7)) hX dX5_copyFrom_130 zi_b_7 ?_
    refine zv_icmp_ge (tgt := 151) hX dX5_copyFrom_132 rfl ?_ ?_
    · exact zv_vret hX hT dX5_copyFrom_151
    · refine zv_aload_n hX dX5_copyFrom_135 0 rfl ?_
      refine zv_geta hX wf_X5_30 wc_5 zd_3 zj_3_13 c9_5 zr_3_13 (by decide) dX5_copyFrom_136 ?_
      refine zv_iload_n hX dX5_copyFrom_139 1 rfl ?_
      refine zv_dup2 hX dX5_copyFrom_140 rfl rfl ?_
      refine zv_iald hX dX5_copyFrom_141 (fun x1 => ?_)
      refine zv_iconst (v := (1 : Int32)) hX dX5_copyFrom_142 zi_i_1 ?_
      refine zv_iadd hX dX5_copyFrom_143 ?_
      refine zv_iast hX dX5_copyFrom_144 (fun s2 => ?_)
      refine zv_iincB (lw := fun x3 => [(2, .int x3), (0, .ref (zx_ad X 3))]) hX dX5_copyFrom_145 1 rfl zi_i_1 (by decide) (fun _ => rfl) (fun x3 => ?_)
      refine zv_goto (tgt := 129) hX dX5_copyFrom_148 rfl ?_
      exact zv_sub [1, 0] rfl (ih x3 s2)
def f_X5_copyFrom_3_31  (s : zS) : Option (Unit × zS) :=
  zb (zs_i s 3 0 (s.1 31 0)) fun s4 =>
  zb (zs_i s4 3 1 (s4.1 31 1)) fun s5 =>
  zbd (f_X5_copyPeople 32 4 s5) fun _ s6 =>
  zbd (f_X5_copyPeople 33 5 s6) fun _ s7 =>
  zbd (f_X5_copyPeople 34 6 s7) fun _ s8 =>
  zbd (f_X5_copyPeople 35 7 s8) fun _ s9 =>
  zbd (f_X5_copyPeople 36 8 s9) fun _ s10 =>
  (zw_c s10 37 (0 : Int32) 9 (0 : Int32) (nI 900)).bind fun s11 =>
  zb (zs_i s11 3 8 (s11.1 31 8)) fun s12 =>
  zb (zs_i s12 3 9 (s12.1 31 9)) fun s13 =>
  zb (zs_i s13 3 10 (s13.1 31 10)) fun s14 =>
  zb (zs_i s14 3 11 (s14.1 31 11)) fun s15 =>
  zb (zs_i s15 3 12 (s15.1 31 12)) fun s16 =>
  f_X5_copyFrom_3_31_129 zFU (0 : Int32) s16
set_option maxRecDepth 20000 in
theorem c_X5_copyFrom_3_31 (Y : zG)  (s : zS) : zM Y yX5_copyFrom cX5_copyFrom 3 none (zR 2 101) [.ref (zy_a Y 3), .ref (zy_a Y 31)] s zrV (f_X5_copyFrom_3_31  s) := by
  refine zm_start (by decide +kernel) (Nat.le_of_ble_eq_true rfl) ?_
  intro X hY hT hX
  subst hY
  have hX : zx_ok X cX5_copyFrom RX5 3 := hX
  show zV X (zq X zrV) 3 0 [(0, .ref (zx_ad X 3)), (1, .ref (zx_ad X 31))] [] s _
  unfold f_X5_copyFrom_3_31
  refine zv_aload_n hX dX5_copyFrom_0 0 rfl ?_
  refine zv_aload_n hX dX5_copyFrom_1 1 rfl ?_
  refine zv_geti hX wf_X5_42 wc_5 zd_31 zj_31_0 c9_5 zr_31_0 dX5_copyFrom_2 ?_
  refine zv_puti hX wf_X5_42 wc_5 wk_5_0 zd_3 zj_3_0 c9_5 zr_3_0 dX5_copyFrom_5 (fun s4 => ?_)
  refine zv_aload_n hX dX5_copyFrom_8 0 rfl ?_
  refine zv_aload_n hX dX5_copyFrom_9 1 rfl ?_
  refine zv_geti hX wf_X5_54 wc_5 zd_31 zj_31_1 c9_5 zr_31_1 dX5_copyFrom_10 ?_
  refine zv_puti hX wf_X5_54 wc_5 wk_5_1 zd_3 zj_3_1 c9_5 zr_3_1 dX5_copyFrom_13 (fun s5 => ?_)
  refine zv_aload_n hX dX5_copyFrom_16 1 rfl ?_
  refine zv_geta hX wf_X5_9 wc_5 zd_31 zj_31_2 c9_5 zr_31_2 (by decide) dX5_copyFrom_17 ?_
  refine zv_aload_n hX dX5_copyFrom_20 0 rfl ?_
  refine zv_geta hX wf_X5_9 wc_5 zd_3 zj_3_2 c9_5 zr_3_2 (by decide) dX5_copyFrom_21 ?_
  refine zv_cSV [.ref (zx_ad X 32), .ref (zx_ad X 4)] (rest := []) hX hT.2.2.2.2 (c_X5_copyPeople (zx_Y X) 32 4 s5) wv_X5_copyPeople wm_X5_72 rfl (Nat.le_of_ble_eq_true rfl) (Nat.le_of_ble_eq_true rfl) rfl (Nat.le_of_ble_eq_true rfl) dX5_copyFrom_24 (fun _ s6 => ?_)
  refine zv_aload_n hX dX5_copyFrom_27 1 rfl ?_
  refine zv_geta hX wf_X5_15 wc_5 zd_31 zj_31_3 c9_5 zr_31_3 (by decide) dX5_copyFrom_28 ?_
  refine zv_aload_n hX dX5_copyFrom_31 0 rfl ?_
  refine zv_geta hX wf_X5_15 wc_5 zd_3 zj_3_3 c9_5 zr_3_3 (by decide) dX5_copyFrom_32 ?_
  refine zv_cSV [.ref (zx_ad X 33), .ref (zx_ad X 5)] (rest := []) hX hT.2.2.2.2 (c_X5_copyPeople (zx_Y X) 33 5 s6) wv_X5_copyPeople wm_X5_72 rfl (Nat.le_of_ble_eq_true rfl) (Nat.le_of_ble_eq_true rfl) rfl (Nat.le_of_ble_eq_true rfl) dX5_copyFrom_35 (fun _ s7 => ?_)
  refine zv_aload_n hX dX5_copyFrom_38 1 rfl ?_
  refine zv_geta hX wf_X5_18 wc_5 zd_31 zj_31_4 c9_5 zr_31_4 (by decide) dX5_copyFrom_39 ?_
  refine zv_aload_n hX dX5_copyFrom_42 0 rfl ?_
  refine zv_geta hX wf_X5_18 wc_5 zd_3 zj_3_4 c9_5 zr_3_4 (by decide) dX5_copyFrom_43 ?_
  refine zv_cSV [.ref (zx_ad X 34), .ref (zx_ad X 6)] (rest := []) hX hT.2.2.2.2 (c_X5_copyPeople (zx_Y X) 34 6 s7) wv_X5_copyPeople wm_X5_72 rfl (Nat.le_of_ble_eq_true rfl) (Nat.le_of_ble_eq_true rfl) rfl (Nat.le_of_ble_eq_true rfl) dX5_copyFrom_46 (fun _ s8 => ?_)
  refine zv_aload_n hX dX5_copyFrom_49 1 rfl ?_
  refine zv_geta hX wf_X5_21 wc_5 zd_31 zj_31_5 c9_5 zr_31_5 (by decide) dX5_copyFrom_50 ?_
  refine zv_aload_n hX dX5_copyFrom_53 0 rfl ?_
  refine zv_geta hX wf_X5_21 wc_5 zd_3 zj_3_5 c9_5 zr_3_5 (by decide) dX5_copyFrom_54 ?_
  refine zv_cSV [.ref (zx_ad X 35), .ref (zx_ad X 7)] (rest := []) hX hT.2.2.2.2 (c_X5_copyPeople (zx_Y X) 35 7 s8) wv_X5_copyPeople wm_X5_72 rfl (Nat.le_of_ble_eq_true rfl) (Nat.le_of_ble_eq_true rfl) rfl (Nat.le_of_ble_eq_true rfl) dX5_copyFrom_57 (fun _ s9 => ?_)
  refine zv_aload_n hX dX5_copyFrom_60 1 rfl ?_
  refine zv_geta hX wf_X5_24 wc_5 zd_31 zj_31_6 c9_5 zr_31_6 (by decide) dX5_copyFrom_61 ?_
  refine zv_aload_n hX dX5_copyFrom_64 0 rfl ?_
  refine zv_geta hX wf_X5_24 wc_5 zd_3 zj_3_6 c9_5 zr_3_6 (by decide) dX5_copyFrom_65 ?_
  refine zv_cSV [.ref (zx_ad X 36), .ref (zx_ad X 8)] (rest := []) hX hT.2.2.2.2 (c_X5_copyPeople (zx_Y X) 36 8 s9) wv_X5_copyPeople wm_X5_72 rfl (Nat.le_of_ble_eq_true rfl) (Nat.le_of_ble_eq_true rfl) rfl (Nat.le_of_ble_eq_true rfl) dX5_copyFrom_68 (fun _ s10 => ?_)
  refine zv_aload_n hX dX5_copyFrom_71 1 rfl ?_
  refine zv_geta hX wf_X5_27 wc_5 zd_31 zj_31_7 c9_5 zr_31_7 (by decide) dX5_copyFrom_72 ?_
  refine zv_iconst (v := (0 : Int32)) hX dX5_copyFrom_75 zi_i_0 ?_
  refine zv_aload_n hX dX5_copyFrom_76 0 rfl ?_
  refine zv_geta hX wf_X5_27 wc_5 zd_3 zj_3_7 c9_5 zr_3_7 (by decide) dX5_copyFrom_77 ?_
  refine zv_iconst (v := (0 : Int32)) hX dX5_copyFrom_80 zi_i_0 ?_
  refine zv_sipush (v := (nI 900)) hX dX5_copyFrom_81 zi_s_900 ?_
  refine zv_copy hX wm_X5_76 wa_native wa_static wa_init (by rw [hT.2.2.2.2]; exact Nat.le_of_ble_eq_true rfl) (by rw [hT.2.2.2.2]; exact Nat.le_of_ble_eq_true rfl) dX5_copyFrom_84 (fun s11 => ?_)
  refine zv_aload_n hX dX5_copyFrom_87 0 rfl ?_
  refine zv_aload_n hX dX5_copyFrom_88 1 rfl ?_
  refine zv_geti hX wf_X5_57 wc_5 zd_31 zj_31_8 c9_5 zr_31_8 dX5_copyFrom_89 ?_
  refine zv_puti hX wf_X5_57 wc_5 wk_5_8 zd_3 zj_3_8 c9_5 zr_3_8 dX5_copyFrom_92 (fun s12 => ?_)
  refine zv_aload_n hX dX5_copyFrom_95 0 rfl ?_
  refine zv_aload_n hX dX5_copyFrom_96 1 rfl ?_
  refine zv_geti hX wf_X5_60 wc_5 zd_31 zj_31_9 c9_5 zr_31_9 dX5_copyFrom_97 ?_
  refine zv_puti hX wf_X5_60 wc_5 wk_5_9 zd_3 zj_3_9 c9_5 zr_3_9 dX5_copyFrom_100 (fun s13 => ?_)
  refine zv_aload_n hX dX5_copyFrom_103 0 rfl ?_
  refine zv_aload_n hX dX5_copyFrom_104 1 rfl ?_
  refine zv_geti hX wf_X5_63 wc_5 zd_31 zj_31_10 c9_5 zr_31_10 dX5_copyFrom_105 ?_
  refine zv_puti hX wf_X5_63 wc_5 wk_5_10 zd_3 zj_3_10 c9_5 zr_3_10 dX5_copyFrom_108 (fun s14 => ?_)
  refine zv_aload_n hX dX5_copyFrom_111 0 rfl ?_
  refine zv_aload_n hX dX5_copyFrom_112 1 rfl ?_
  refine zv_geti hX wf_X5_66 wc_5 zd_31 zj_31_11 c9_5 zr_31_11 dX5_copyFrom_113 ?_
  refine zv_puti hX wf_X5_66 wc_5 wk_5_11 zd_3 zj_3_11 c9_5 zr_3_11 dX5_copyFrom_116 (fun s15 => ?_)
  refine zv_aload_n hX dX5_copyFrom_119 0 rfl ?_
  refine zv_aload_n hX dX5_copyFrom_120 1 rfl ?_
  refine zv_geti hX wf_X5_69 wc_5 zd_31 zj_31_12 c9_5 zr_31_12 dX5_copyFrom_121 ?_
  refine zv_puti hX wf_X5_69 wc_5 wk_5_12 zd_3 zj_3_12 c9_5 zr_3_12 dX5_copyFrom_124 (fun s16 => ?_)
  refine zv_iconst (v := (0 : Int32)) hX dX5_copyFrom_127 zi_i_0 ?_
  refine zv_istore_n (lv' := [(2, .int (0 : Int32)), (0, .ref (zx_ad X 3)), (1, .ref (zx_ad X 31))]) hX dX5_copyFrom_128 (by decide) rfl ?_
  exact zv_sub [1, 0] rfl (b_X5_copyFrom_3_31_129 hX hT zFU (0 : Int32) s16)
theorem dX5_engagedBits_0 : decode cX5_engagedBits 0 = .ok (.iconst 0, 1) := by decide +kernel
theorem dX5_engagedBits_1 : decode cX5_engagedBits 1 = .ok (.istore_n 1, 1) := by decide +kernel
theorem dX5_engagedBits_2 : decode cX5_engagedBits 2 = .ok (.iconst 0, 1) := by decide +kernel
theorem dX5_engagedBits_3 : decode cX5_engagedBits 3 = .ok (.istore_n 2, 1) := by decide +kernel
theorem dX5_engagedBits_4 : decode cX5_engagedBits 4 = .ok (.iload_n 2, 1) := by decide +kernel
theorem dX5_engagedBits_5 : decode cX5_engagedBits 5 = .ok (.aload_n 0, 1) := by decide +kernel
theorem dX5_engagedBits_6 : decode cX5_engagedBits 6 = .ok (.getfield 42, 3) := by decide +kernel
theorem dX5_engagedBits_9 : decode cX5_engagedBits 9 = .ok (.if_icmp .ge 24, 3) := by decide +kernel
theorem dX5_engagedBits_12 : decode cX5_engagedBits 12 = .ok (.aload_n 0, 1) := by decide +kernel
theorem dX5_engagedBits_13 : decode cX5_engagedBits 13 = .ok (.getfield 24, 3) := by decide +kernel
theorem dX5_engagedBits_16 : decode cX5_engagedBits 16 = .ok (.iload_n 2, 1) := by decide +kernel
theorem dX5_engagedBits_17 : decode cX5_engagedBits 17 = .ok (.iaload, 1) := by decide +kernel
theorem dX5_engagedBits_18 : decode cX5_engagedBits 18 = .ok (.ifCond .lt 9, 3) := by decide +kernel
theorem dX5_engagedBits_21 : decode cX5_engagedBits 21 = .ok (.iload_n 1, 1) := by decide +kernel
theorem dX5_engagedBits_22 : decode cX5_engagedBits 22 = .ok (.iconst 1, 1) := by decide +kernel
theorem dX5_engagedBits_23 : decode cX5_engagedBits 23 = .ok (.iload_n 2, 1) := by decide +kernel
theorem dX5_engagedBits_24 : decode cX5_engagedBits 24 = .ok (.ishl, 1) := by decide +kernel
theorem dX5_engagedBits_25 : decode cX5_engagedBits 25 = .ok (.ior, 1) := by decide +kernel
theorem dX5_engagedBits_26 : decode cX5_engagedBits 26 = .ok (.istore_n 1, 1) := by decide +kernel
theorem dX5_engagedBits_27 : decode cX5_engagedBits 27 = .ok (.iinc 2 1, 3) := by decide +kernel
theorem dX5_engagedBits_30 : decode cX5_engagedBits 30 = .ok (.goto (-26), 3) := by decide +kernel
theorem dX5_engagedBits_33 : decode cX5_engagedBits 33 = .ok (.iload_n 1, 1) := by decide +kernel
theorem dX5_engagedBits_34 : decode cX5_engagedBits 34 = .ok (.ireturn, 1) := by decide +kernel
def f_X5_engagedBits_3_27 (kb_4 : Int32 → Int32 → zS → Option (Int32 × zS)) (v1 : Int32) (v2 : Int32) (s : zS) : Option (Int32 × zS) :=
  zb (v2 + (1 : Int32)) fun x1 =>
  kb_4 v1 x1 s
set_option maxRecDepth 20000 in
theorem b_X5_engagedBits_3_27 {X : zX} {kb_4 : Int32 → Int32 → zS → Option (Int32 × zS)} (hX : zx_ok X cX5_engagedBits RX5 3) (hT : zx_rt X (some .int) (zR 0 0)) (hk_4 : ∀ (v1 : Int32) (v2 : Int32) (s : zS), zV X (zq X zrI) 3 4 [(0, .ref (zx_ad X 3)), (1, .int v1), (2, .int v2)] [] s (kb_4 v1 v2 s)) : ∀ (v1 : Int32) (v2 : Int32) (s : zS), zV X (zq X zrI) 3 27 [(0, .ref (zx_ad X 3)), (1, .int v1), (2, .int v2)] [] s (f_X5_engagedBits_3_27 kb_4 v1 v2 s) := by
  intro v1 v2 s
  unfold f_X5_engagedBits_3_27
  refine zv_iincB (lw := fun x1 => [(2, .int x1), (0, .ref (zx_ad X 3)), (1, .int v1)]) hX dX5_engagedBits_27 2 rfl zi_i_1 (by decide) (fun _ => rfl) (fun x1 => ?_)
  refine zv_goto (tgt := 4) hX dX5_engagedBits_30 rfl ?_
  exact zv_sub [1, 2, 0] rfl (hk_4 v1 x1 s)
def f_X5_engagedBits_3_4 : Nat → Int32 → Int32 → zS → Option (Int32 × zS)
  | 0, _, _, _ => none
  | n + 1, v1, v2, s =>
    if (s.1 3 0) ≤ v2 then
    (some (v1, s))
    else
    (zr_i s 8 v2).bind fun x2 =>
    if x2 < 0 then
    (f_X5_engagedBits_3_27 (f_X5_engagedBits_3_4 n) v1 v2 s)
    else
    zb (v1 ||| (zo_shl (1 : Int32) v2)) fun x3 =>
    f_X5_engagedBits_3_27 (f_X5_engagedBits_3_4 n) x3 v2 s
set_option maxRecDepth 20000 in
theorem b_X5_engagedBits_3_4 {X : zX} (hX : zx_ok X cX5_engagedBits RX5 3) (hT : zx_rt X (some .int) (zR 0 0)) : ∀ (n : Nat) (v1 : Int32) (v2 : Int32) (s : zS), zV X (zq X zrI) 3 4 [(0, .ref (zx_ad X 3)), (1, .int v1), (2, .int v2)] [] s (f_X5_engagedBits_3_4 n v1 v2 s) := by
  intro n
  induction n with
  | zero => intro v1 v2 s; exact zv_none
  | succ n ih =>
    intro v1 v2 s
    rw [f_X5_engagedBits_3_4]
    refine zv_iload_n hX dX5_engagedBits_4 2 rfl ?_
    refine zv_aload_n hX dX5_engagedBits_5 0 rfl ?_
    refine zv_geti hX wf_X5_42 wc_5 zd_3 zj_3_0 c9_5 zr_3_0 dX5_engagedBits_6 ?_
    refine zv_icmp_ge (tgt := 33) hX dX5_engagedBits_9 rfl ?_ ?_
    · refine zv_iload_n hX dX5_engagedBits_33 1 rfl ?_
      exact zv_ireti hX hT dX5_engagedBits_34
    · refine zv_aload_n hX dX5_engagedBits_12 0 rfl ?_
      refine zv_geta hX wf_X5_24 wc_5 zd_3 zj_3_6 c9_5 zr_3_6 (by decide) dX5_engagedBits_13 ?_
      refine zv_iload_n hX dX5_engagedBits_16 2 rfl ?_
      refine zv_iald hX dX5_engagedBits_17 (fun x2 => ?_)
      refine zv_if_lt (tgt := 27) hX dX5_engagedBits_18 rfl ?_ ?_
      · exact b_X5_engagedBits_3_27 hX hT ih v1 v2 s
      · refine zv_iload_n hX dX5_engagedBits_21 1 rfl ?_
        refine zv_iconst (v := (1 : Int32)) hX dX5_engagedBits_22 zi_i_1 ?_
        refine zv_iload_n hX dX5_engagedBits_23 2 rfl ?_
        refine zv_ishl hX dX5_engagedBits_24 ?_
        refine zv_ior hX dX5_engagedBits_25 ?_
        refine zv_istB_n (lw := fun x3 => [(1, .int x3), (0, .ref (zx_ad X 3)), (2, .int v2)]) hX dX5_engagedBits_26 (by decide) (fun _ => rfl) (fun x3 => ?_)
        exact zv_sub [1, 0, 2] rfl (b_X5_engagedBits_3_27 hX hT ih x3 v2 s)
def f_X5_engagedBits_3  (s : zS) : Option (Int32 × zS) :=
  f_X5_engagedBits_3_4 zFU (0 : Int32) (0 : Int32) s
set_option maxRecDepth 20000 in
theorem c_X5_engagedBits_3 (Y : zG)  (s : zS) : zM Y yX5_engagedBits cX5_engagedBits 3 (some .int) (zR 0 0) [.ref (zy_a Y 3)] s zrI (f_X5_engagedBits_3  s) := by
  refine zm_start (by decide +kernel) (Nat.le_of_ble_eq_true rfl) ?_
  intro X hY hT hX
  subst hY
  have hX : zx_ok X cX5_engagedBits RX5 3 := hX
  show zV X (zq X zrI) 3 0 [(0, .ref (zx_ad X 3))] [] s _
  unfold f_X5_engagedBits_3
  refine zv_iconst (v := (0 : Int32)) hX dX5_engagedBits_0 zi_i_0 ?_
  refine zv_istore_n (lv' := [(1, .int (0 : Int32)), (0, .ref (zx_ad X 3))]) hX dX5_engagedBits_1 (by decide) rfl ?_
  refine zv_iconst (v := (0 : Int32)) hX dX5_engagedBits_2 zi_i_0 ?_
  refine zv_istore_n (lv' := [(2, .int (0 : Int32)), (1, .int (0 : Int32)), (0, .ref (zx_ad X 3))]) hX dX5_engagedBits_3 (by decide) rfl ?_
  exact zv_sub [2, 1, 0] rfl (b_X5_engagedBits_3_4 hX hT zFU (0 : Int32) (0 : Int32) s)
theorem dX5_hasAll_0 : decode cX5_hasAll 0 = .ok (.iload_n 1, 1) := by decide +kernel
theorem dX5_hasAll_1 : decode cX5_hasAll 1 = .ok (.aload_n 0, 1) := by decide +kernel
theorem dX5_hasAll_2 : decode cX5_hasAll 2 = .ok (.invokevirtual 50, 3) := by decide +kernel
theorem dX5_hasAll_5 : decode cX5_hasAll 5 = .ok (.iconst (-1), 1) := by decide +kernel
theorem dX5_hasAll_6 : decode cX5_hasAll 6 = .ok (.ixor, 1) := by decide +kernel
theorem dX5_hasAll_7 : decode cX5_hasAll 7 = .ok (.iand, 1) := by decide +kernel
theorem dX5_hasAll_8 : decode cX5_hasAll 8 = .ok (.ifCond .ne 7, 3) := by decide +kernel
theorem dX5_hasAll_11 : decode cX5_hasAll 11 = .ok (.iconst 1, 1) := by decide +kernel
theorem dX5_hasAll_12 : decode cX5_hasAll 12 = .ok (.goto 4, 3) := by decide +kernel
theorem dX5_hasAll_15 : decode cX5_hasAll 15 = .ok (.iconst 0, 1) := by decide +kernel
theorem dX5_hasAll_16 : decode cX5_hasAll 16 = .ok (.ireturn, 1) := by decide +kernel
def f_X5_hasAll_3_16 (w0 : Int32) (s : zS) : Option (Int32 × zS) :=
  if w0 = 0 ∨ w0 = 1 then some (w0, s) else none
set_option maxRecDepth 20000 in
theorem b_X5_hasAll_3_16 {X : zX} (hX : zx_ok X cX5_hasAll RX5 2) (hT : zx_rt X (some .boolean) (zR 1 20)) : ∀ (w0 : Int32) (s : zS), zV X (zq X zrI) 2 16 [] [.int w0] s (f_X5_hasAll_3_16 w0 s) := by
  intro w0 s
  unfold f_X5_hasAll_3_16
  exact zv_iretzB hX hT dX5_hasAll_16
def f_X5_hasAll_3 (v1 : Int32) (s : zS) : Option (Int32 × zS) :=
  zbd (f_X5_everybody_3 s) fun r1 s2 =>
  if ¬ (v1 &&& (r1 ^^^ (-1 : Int32))) = 0 then
  (f_X5_hasAll_3_16 (0 : Int32) s2)
  else
  f_X5_hasAll_3_16 (1 : Int32) s2
set_option maxRecDepth 20000 in
theorem c_X5_hasAll_3 (Y : zG) (v1 : Int32) (s : zS) : zM Y yX5_hasAll cX5_hasAll 2 (some .boolean) (zR 1 20) [.ref (zy_a Y 3), .int v1] s zrI (f_X5_hasAll_3 v1 s) := by
  refine zm_start (by decide +kernel) (Nat.le_of_ble_eq_true rfl) ?_
  intro X hY hT hX
  subst hY
  have hX : zx_ok X cX5_hasAll RX5 2 := hX
  show zV X (zq X zrI) 2 0 [(0, .ref (zx_ad X 3)), (1, .int v1)] [] s _
  unfold f_X5_hasAll_3
  refine zv_iload_n hX dX5_hasAll_0 1 rfl ?_
  refine zv_aload_n hX dX5_hasAll_1 0 rfl ?_
  refine zv_cVI [] (rest := [.int v1]) hX hT.2.2.2.2 (c_X5_everybody_3 (zx_Y X) s) wv_X5_everybody c9_5 zd_3 wm_X5_50 rfl (Nat.le_of_ble_eq_true rfl) (Nat.le_of_ble_eq_true rfl) rfl (Nat.le_of_ble_eq_true rfl) dX5_hasAll_2 (fun r1 s2 => ?_)
  refine zv_iconst (v := (-1 : Int32)) hX dX5_hasAll_5 zi_i_m1 ?_
  refine zv_ixor hX dX5_hasAll_6 ?_
  refine zv_iand hX dX5_hasAll_7 ?_
  refine zv_if_ne (tgt := 15) hX dX5_hasAll_8 rfl ?_ ?_
  · refine zv_iconst (v := (0 : Int32)) hX dX5_hasAll_15 zi_i_0 ?_
    exact zv_sub [] rfl (b_X5_hasAll_3_16 hX hT (0 : Int32) s2)
  · refine zv_iconst (v := (1 : Int32)) hX dX5_hasAll_11 zi_i_1 ?_
    refine zv_goto (tgt := 16) hX dX5_hasAll_12 rfl ?_
    exact zv_sub [] rfl (b_X5_hasAll_3_16 hX hT (1 : Int32) s2)
theorem dX5_inkOfAll_0 : decode cX5_inkOfAll 0 = .ok (.aload_n 0, 1) := by decide +kernel
theorem dX5_inkOfAll_1 : decode cX5_inkOfAll 1 = .ok (.aload_n 0, 1) := by decide +kernel
theorem dX5_inkOfAll_2 : decode cX5_inkOfAll 2 = .ok (.invokevirtual 50, 3) := by decide +kernel
theorem dX5_inkOfAll_5 : decode cX5_inkOfAll 5 = .ok (.invokevirtual 82, 3) := by decide +kernel
theorem dX5_inkOfAll_8 : decode cX5_inkOfAll 8 = .ok (.ireturn, 1) := by decide +kernel
def f_X5_inkOfAll_3  (s : zS) : Option (Int32 × zS) :=
  zbd (f_X5_everybody_3 s) fun r1 s2 =>
  zbd (f_X5_inkOf_3 r1 s2) fun r3 s4 =>
  some (r3, s4)
set_option maxRecDepth 20000 in
theorem c_X5_inkOfAll_3 (Y : zG)  (s : zS) : zM Y yX5_inkOfAll cX5_inkOfAll 1 (some .int) (zR 2 43) [.ref (zy_a Y 3)] s zrI (f_X5_inkOfAll_3  s) := by
  refine zm_start (by decide +kernel) (Nat.le_of_ble_eq_true rfl) ?_
  intro X hY hT hX
  subst hY
  have hX : zx_ok X cX5_inkOfAll RX5 1 := hX
  show zV X (zq X zrI) 1 0 [(0, .ref (zx_ad X 3))] [] s _
  unfold f_X5_inkOfAll_3
  refine zv_aload_n hX dX5_inkOfAll_0 0 rfl ?_
  refine zv_aload_n hX dX5_inkOfAll_1 0 rfl ?_
  refine zv_cVI [] (rest := [.ref (zx_ad X 3)]) hX hT.2.2.2.2 (c_X5_everybody_3 (zx_Y X) s) wv_X5_everybody c9_5 zd_3 wm_X5_50 rfl (Nat.le_of_ble_eq_true rfl) (Nat.le_of_ble_eq_true rfl) rfl (Nat.le_of_ble_eq_true rfl) dX5_inkOfAll_2 (fun r1 s2 => ?_)
  refine zv_cVI [.int r1] (rest := []) hX hT.2.2.2.2 (c_X5_inkOf_3 (zx_Y X) r1 s2) wv_X5_inkOf c9_5 zd_3 wm_X5_82 rfl (Nat.le_of_ble_eq_true rfl) (Nat.le_of_ble_eq_true rfl) rfl (Nat.le_of_ble_eq_true rfl) dX5_inkOfAll_5 (fun r3 s4 => ?_)
  exact zv_ireti hX hT dX5_inkOfAll_8
theorem dX5_oddsOfSet_0 : decode cX5_oddsOfSet 0 = .ok (.iconst 0, 1) := by decide +kernel
theorem dX5_oddsOfSet_1 : decode cX5_oddsOfSet 1 = .ok (.istore_n 2, 1) := by decide +kernel
theorem dX5_oddsOfSet_2 : decode cX5_oddsOfSet 2 = .ok (.iconst 0, 1) := by decide +kernel
theorem dX5_oddsOfSet_3 : decode cX5_oddsOfSet 3 = .ok (.istore_n 3, 1) := by decide +kernel
theorem dX5_oddsOfSet_4 : decode cX5_oddsOfSet 4 = .ok (.iload_n 3, 1) := by decide +kernel
theorem dX5_oddsOfSet_5 : decode cX5_oddsOfSet 5 = .ok (.aload_n 0, 1) := by decide +kernel
theorem dX5_oddsOfSet_6 : decode cX5_oddsOfSet 6 = .ok (.getfield 42, 3) := by decide +kernel
theorem dX5_oddsOfSet_9 : decode cX5_oddsOfSet 9 = .ok (.if_icmp .ge 27, 3) := by decide +kernel
theorem dX5_oddsOfSet_12 : decode cX5_oddsOfSet 12 = .ok (.iload_n 1, 1) := by decide +kernel
theorem dX5_oddsOfSet_13 : decode cX5_oddsOfSet 13 = .ok (.iload_n 3, 1) := by decide +kernel
theorem dX5_oddsOfSet_14 : decode cX5_oddsOfSet 14 = .ok (.iushr, 1) := by decide +kernel
theorem dX5_oddsOfSet_15 : decode cX5_oddsOfSet 15 = .ok (.iconst 1, 1) := by decide +kernel
theorem dX5_oddsOfSet_16 : decode cX5_oddsOfSet 16 = .ok (.iand, 1) := by decide +kernel
theorem dX5_oddsOfSet_17 : decode cX5_oddsOfSet 17 = .ok (.iconst 1, 1) := by decide +kernel
theorem dX5_oddsOfSet_18 : decode cX5_oddsOfSet 18 = .ok (.if_icmp .ne 12, 3) := by decide +kernel
theorem dX5_oddsOfSet_21 : decode cX5_oddsOfSet 21 = .ok (.iload_n 2, 1) := by decide +kernel
theorem dX5_oddsOfSet_22 : decode cX5_oddsOfSet 22 = .ok (.aload_n 0, 1) := by decide +kernel
theorem dX5_oddsOfSet_23 : decode cX5_oddsOfSet 23 = .ok (.getfield 21, 3) := by decide +kernel
theorem dX5_oddsOfSet_26 : decode cX5_oddsOfSet 26 = .ok (.iload_n 3, 1) := by decide +kernel
theorem dX5_oddsOfSet_27 : decode cX5_oddsOfSet 27 = .ok (.iaload, 1) := by decide +kernel
theorem dX5_oddsOfSet_28 : decode cX5_oddsOfSet 28 = .ok (.iadd, 1) := by decide +kernel
theorem dX5_oddsOfSet_29 : decode cX5_oddsOfSet 29 = .ok (.istore_n 2, 1) := by decide +kernel
theorem dX5_oddsOfSet_30 : decode cX5_oddsOfSet 30 = .ok (.iinc 3 1, 3) := by decide +kernel
theorem dX5_oddsOfSet_33 : decode cX5_oddsOfSet 33 = .ok (.goto (-29), 3) := by decide +kernel
theorem dX5_oddsOfSet_36 : decode cX5_oddsOfSet 36 = .ok (.iload_n 2, 1) := by decide +kernel
theorem dX5_oddsOfSet_37 : decode cX5_oddsOfSet 37 = .ok (.ireturn, 1) := by decide +kernel
def f_X5_oddsOfSet_3_30 (kb_4 : Int32 → Int32 → Int32 → zS → Option (Int32 × zS)) (v1 : Int32) (v2 : Int32) (v3 : Int32) (s : zS) : Option (Int32 × zS) :=
  zb (v3 + (1 : Int32)) fun x1 =>
  kb_4 v1 v2 x1 s
set_option maxRecDepth 20000 in
theorem b_X5_oddsOfSet_3_30 {X : zX} {kb_4 : Int32 → Int32 → Int32 → zS → Option (Int32 × zS)} (hX : zx_ok X cX5_oddsOfSet RX5 4) (hT : zx_rt X (some .int) (zR 0 0)) (hk_4 : ∀ (v1 : Int32) (v2 : Int32) (v3 : Int32) (s : zS), zV X (zq X zrI) 4 4 [(0, .ref (zx_ad X 3)), (1, .int v1), (2, .int v2), (3, .int v3)] [] s (kb_4 v1 v2 v3 s)) : ∀ (v1 : Int32) (v2 : Int32) (v3 : Int32) (s : zS), zV X (zq X zrI) 4 30 [(0, .ref (zx_ad X 3)), (1, .int v1), (2, .int v2), (3, .int v3)] [] s (f_X5_oddsOfSet_3_30 kb_4 v1 v2 v3 s) := by
  intro v1 v2 v3 s
  unfold f_X5_oddsOfSet_3_30
  refine zv_iincB (lw := fun x1 => [(3, .int x1), (0, .ref (zx_ad X 3)), (1, .int v1), (2, .int v2)]) hX dX5_oddsOfSet_30 3 rfl zi_i_1 (by decide) (fun _ => rfl) (fun x1 => ?_)
  refine zv_goto (tgt := 4) hX dX5_oddsOfSet_33 rfl ?_
  exact zv_sub [1, 2, 3, 0] rfl (hk_4 v1 v2 x1 s)
def f_X5_oddsOfSet_3_4 : Nat → Int32 → Int32 → Int32 → zS → Option (Int32 × zS)
  | 0, _, _, _, _ => none
  | n + 1, v1, v2, v3, s =>
    if (s.1 3 0) ≤ v3 then
    (some (v2, s))
    else
    if ¬ ((zo_ush v1 v3) &&& (1 : Int32)) = (1 : Int32) then
    (f_X5_oddsOfSet_3_30 (f_X5_oddsOfSet_3_4 n) v1 v2 v3 s)
    else
    (zr_i s 7 v3).bind fun x2 =>
    zb (v2 + x2) fun x3 =>
    f_X5_oddsOfSet_3_30 (f_X5_oddsOfSet_3_4 n) v1 x3 v3 s
set_option maxRecDepth 20000 in
theorem b_X5_oddsOfSet_3_4 {X : zX} (hX : zx_ok X cX5_oddsOfSet RX5 4) (hT : zx_rt X (some .int) (zR 0 0)) : ∀ (n : Nat) (v1 : Int32) (v2 : Int32) (v3 : Int32) (s : zS), zV X (zq X zrI) 4 4 [(0, .ref (zx_ad X 3)), (1, .int v1), (2, .int v2), (3, .int v3)] [] s (f_X5_oddsOfSet_3_4 n v1 v2 v3 s) := by
  intro n
  induction n with
  | zero => intro v1 v2 v3 s; exact zv_none
  | succ n ih =>
    intro v1 v2 v3 s
    rw [f_X5_oddsOfSet_3_4]
    refine zv_iload_n hX dX5_oddsOfSet_4 3 rfl ?_
    refine zv_aload_n hX dX5_oddsOfSet_5 0 rfl ?_
    refine zv_geti hX wf_X5_42 wc_5 zd_3 zj_3_0 c9_5 zr_3_0 dX5_oddsOfSet_6 ?_
    refine zv_icmp_ge (tgt := 36) hX dX5_oddsOfSet_9 rfl ?_ ?_
    · refine zv_iload_n hX dX5_oddsOfSet_36 2 rfl ?_
      exact zv_ireti hX hT dX5_oddsOfSet_37
    · refine zv_iload_n hX dX5_oddsOfSet_12 1 rfl ?_
      refine zv_iload_n hX dX5_oddsOfSet_13 3 rfl ?_
      refine zv_iushr hX dX5_oddsOfSet_14 ?_
      refine zv_iconst (v := (1 : Int32)) hX dX5_oddsOfSet_15 zi_i_1 ?_
      refine zv_iand hX dX5_oddsOfSet_16 ?_
      refine zv_iconst (v := (1 : Int32)) hX dX5_oddsOfSet_17 zi_i_1 ?_
      refine zv_icmp_ne (tgt := 30) hX dX5_oddsOfSet_18 rfl ?_ ?_
      · exact b_X5_oddsOfSet_3_30 hX hT ih v1 v2 v3 s
      · refine zv_iload_n hX dX5_oddsOfSet_21 2 rfl ?_
        refine zv_aload_n hX dX5_oddsOfSet_22 0 rfl ?_
        refine zv_geta hX wf_X5_21 wc_5 zd_3 zj_3_5 c9_5 zr_3_5 (by decide) dX5_oddsOfSet_23 ?_
        refine zv_iload_n hX dX5_oddsOfSet_26 3 rfl ?_
        refine zv_iald hX dX5_oddsOfSet_27 (fun x2 => ?_)
        refine zv_iadd hX dX5_oddsOfSet_28 ?_
        refine zv_istB_n (lw := fun x3 => [(2, .int x3), (0, .ref (zx_ad X 3)), (1, .int v1), (3, .int v3)]) hX dX5_oddsOfSet_29 (by decide) (fun _ => rfl) (fun x3 => ?_)
        exact zv_sub [1, 2, 0, 3] rfl (b_X5_oddsOfSet_3_30 hX hT ih v1 x3 v3 s)
def f_X5_oddsOfSet_3 (v1 : Int32) (s : zS) : Option (Int32 × zS) :=
  f_X5_oddsOfSet_3_4 zFU v1 (0 : Int32) (0 : Int32) s
set_option maxRecDepth 20000 in
theorem c_X5_oddsOfSet_3 (Y : zG) (v1 : Int32) (s : zS) : zM Y yX5_oddsOfSet cX5_oddsOfSet 4 (some .int) (zR 0 0) [.ref (zy_a Y 3), .int v1] s zrI (f_X5_oddsOfSet_3 v1 s) := by
  refine zm_start (by decide +kernel) (Nat.le_of_ble_eq_true rfl) ?_
  intro X hY hT hX
  subst hY
  have hX : zx_ok X cX5_oddsOfSet RX5 4 := hX
  show zV X (zq X zrI) 4 0 [(0, .ref (zx_ad X 3)), (1, .int v1)] [] s _
  unfold f_X5_oddsOfSet_3
  refine zv_iconst (v := (0 : Int32)) hX dX5_oddsOfSet_0 zi_i_0 ?_
  refine zv_istore_n (lv' := [(2, .int (0 : Int32)), (0, .ref (zx_ad X 3)), (1, .int v1)]) hX dX5_oddsOfSet_1 (by decide) rfl ?_
  refine zv_iconst (v := (0 : Int32)) hX dX5_oddsOfSet_2 zi_i_0 ?_
  refine zv_istore_n (lv' := [(3, .int (0 : Int32)), (2, .int (0 : Int32)), (0, .ref (zx_ad X 3)), (1, .int v1)]) hX dX5_oddsOfSet_3 (by decide) rfl ?_
  exact zv_sub [2, 3, 1, 0] rfl (b_X5_oddsOfSet_3_4 hX hT zFU v1 (0 : Int32) (0 : Int32) s)
