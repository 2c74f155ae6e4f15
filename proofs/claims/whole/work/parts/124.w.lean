theorem dX7_lists_0 : decode cX7_lists 0 = .ok (.aload_n 0, 1) := by decide +kernel
theorem dX7_lists_1 : decode cX7_lists 1 = .ok (.getfield 52, 3) := by decide +kernel
theorem dX7_lists_4 : decode cX7_lists 4 = .ok (.iload_n 1, 1) := by decide +kernel
theorem dX7_lists_5 : decode cX7_lists 5 = .ok (.invokevirtual 177, 3) := by decide +kernel
theorem dX7_lists_8 : decode cX7_lists 8 = .ok (.ifCond .ne 6, 3) := by decide +kernel
theorem dX7_lists_11 : decode cX7_lists 11 = .ok (.bipush (-2), 2) := by decide +kernel
theorem dX7_lists_13 : decode cX7_lists 13 = .ok (.ireturn, 1) := by decide +kernel
theorem dX7_lists_14 : decode cX7_lists 14 = .ok (.aload_n 0, 1) := by decide +kernel
theorem dX7_lists_15 : decode cX7_lists 15 = .ok (.getfield 52, 3) := by decide +kernel
theorem dX7_lists_18 : decode cX7_lists 18 = .ok (.iload_n 1, 1) := by decide +kernel
theorem dX7_lists_19 : decode cX7_lists 19 = .ok (.invokevirtual 180, 3) := by decide +kernel
theorem dX7_lists_22 : decode cX7_lists 22 = .ok (.ifCond .eq 6, 3) := by decide +kernel
theorem dX7_lists_25 : decode cX7_lists 25 = .ok (.bipush (-6), 2) := by decide +kernel
theorem dX7_lists_27 : decode cX7_lists 27 = .ok (.ireturn, 1) := by decide +kernel
theorem dX7_lists_28 : decode cX7_lists 28 = .ok (.iload_n 2, 1) := by decide +kernel
theorem dX7_lists_29 : decode cX7_lists 29 = .ok (.ifCond .ge 6, 3) := by decide +kernel
theorem dX7_lists_32 : decode cX7_lists 32 = .ok (.bipush (-3), 2) := by decide +kernel
theorem dX7_lists_34 : decode cX7_lists 34 = .ok (.ireturn, 1) := by decide +kernel
theorem dX7_lists_35 : decode cX7_lists 35 = .ok (.aload_n 0, 1) := by decide +kernel
theorem dX7_lists_36 : decode cX7_lists 36 = .ok (.getfield 45, 3) := by decide +kernel
theorem dX7_lists_39 : decode cX7_lists 39 = .ok (.invokevirtual 222, 3) := by decide +kernel
theorem dX7_lists_42 : decode cX7_lists 42 = .ok (.iload_n 2, 1) := by decide +kernel
theorem dX7_lists_43 : decode cX7_lists 43 = .ok (.aload_n 0, 1) := by decide +kernel
theorem dX7_lists_44 : decode cX7_lists 44 = .ok (.getfield 45, 3) := by decide +kernel
theorem dX7_lists_47 : decode cX7_lists 47 = .ok (.getfield 225, 3) := by decide +kernel
theorem dX7_lists_50 : decode cX7_lists 50 = .ok (.if_icmp .lt 6, 3) := by decide +kernel
theorem dX7_lists_53 : decode cX7_lists 53 = .ok (.bipush (-5), 2) := by decide +kernel
theorem dX7_lists_55 : decode cX7_lists 55 = .ok (.ireturn, 1) := by decide +kernel
theorem dX7_lists_56 : decode cX7_lists 56 = .ok (.aload_n 0, 1) := by decide +kernel
theorem dX7_lists_57 : decode cX7_lists 57 = .ok (.getfield 20, 3) := by decide +kernel
theorem dX7_lists_60 : decode cX7_lists 60 = .ok (.getfield 215, 3) := by decide +kernel
theorem dX7_lists_63 : decode cX7_lists 63 = .ok (.aload_n 0, 1) := by decide +kernel
theorem dX7_lists_64 : decode cX7_lists 64 = .ok (.getfield 52, 3) := by decide +kernel
theorem dX7_lists_67 : decode cX7_lists 67 = .ok (.iload_n 1, 1) := by decide +kernel
theorem dX7_lists_68 : decode cX7_lists 68 = .ok (.invokevirtual 259, 3) := by decide +kernel
theorem dX7_lists_71 : decode cX7_lists 71 = .ok (.invokestatic 278, 3) := by decide +kernel
theorem dX7_lists_74 : decode cX7_lists 74 = .ok (.istore_n 3, 1) := by decide +kernel
theorem dX7_lists_75 : decode cX7_lists 75 = .ok (.iconst 0, 1) := by decide +kernel
theorem dX7_lists_76 : decode cX7_lists 76 = .ok (.istore 4, 2) := by decide +kernel
theorem dX7_lists_78 : decode cX7_lists 78 = .ok (.iload 4, 2) := by decide +kernel
theorem dX7_lists_80 : decode cX7_lists 80 = .ok (.iload_n 3, 1) := by decide +kernel
theorem dX7_lists_81 : decode cX7_lists 81 = .ok (.if_icmp .ge 31, 3) := by decide +kernel
theorem dX7_lists_84 : decode cX7_lists 84 = .ok (.aload_n 0, 1) := by decide +kernel
theorem dX7_lists_85 : decode cX7_lists 85 = .ok (.getfield 52, 3) := by decide +kernel
theorem dX7_lists_88 : decode cX7_lists 88 = .ok (.iload_n 1, 1) := by decide +kernel
theorem dX7_lists_89 : decode cX7_lists 89 = .ok (.iload 4, 2) := by decide +kernel
theorem dX7_lists_91 : decode cX7_lists 91 = .ok (.aload_n 0, 1) := by decide +kernel
theorem dX7_lists_92 : decode cX7_lists 92 = .ok (.getfield 45, 3) := by decide +kernel
theorem dX7_lists_95 : decode cX7_lists 95 = .ok (.iload_n 2, 1) := by decide +kernel
theorem dX7_lists_96 : decode cX7_lists 96 = .ok (.iload 4, 2) := by decide +kernel
theorem dX7_lists_98 : decode cX7_lists 98 = .ok (.invokevirtual 228, 3) := by decide +kernel
theorem dX7_lists_101 : decode cX7_lists 101 = .ok (.i2l, 1) := by decide +kernel
theorem dX7_lists_102 : decode cX7_lists 102 = .ok (.invokevirtual 322, 3) := by decide +kernel
theorem dX7_lists_105 : decode cX7_lists 105 = .ok (.pop2, 1) := by decide +kernel
theorem dX7_lists_106 : decode cX7_lists 106 = .ok (.iinc 4 1, 3) := by decide +kernel
theorem dX7_lists_109 : decode cX7_lists 109 = .ok (.goto (-31), 3) := by decide +kernel
theorem dX7_lists_112 : decode cX7_lists 112 = .ok (.iload_n 3, 1) := by decide +kernel
theorem dX7_lists_113 : decode cX7_lists 113 = .ok (.ireturn, 1) := by decide +kernel
def f_X7_lists_78 : Nat → Int32 → Int32 → Int32 → Int32 → zS → Option (Int32 × zS)
  | 0, _, _, _, _, _ => none
  | n + 1, v1, v2, v3, v4, s =>
    if v3 ≤ v4 then
    (some (v3, s))
    else
    zbd (f_X0_partnerIn v2 v4 s) fun r1 s2 =>
    zbd (f_X6_put v1 v4 (r1.toInt64) s2) fun r3 s4 =>
    zb (v4 + (1 : Int32)) fun x5 =>
    f_X7_lists_78 n v1 v2 v3 x5 s4
set_option maxRecDepth 20000 in
theorem b_X7_lists_78 {X : zX} (hX : zx_ok X cX7_lists RX7 5) (hT : zx_rt X (some .int) (zR 70 1738)) : ∀ (n : Nat) (v1 : Int32) (v2 : Int32) (v3 : Int32) (v4 : Int32) (s : zS), zV X (zq X zrI) 5 78 [(0, .ref (zx_ad X 0)), (1, .int v1), (2, .int v2), (3, .int v3), (4, .int v4)] [] s (f_X7_lists_78 n v1 v2 v3 v4 s) := by
  intro n
  induction n with
  | zero => intro v1 v2 v3 v4 s; exact zv_none
  | succ n ih =>
    intro v1 v2 v3 v4 s
    rw [f_X7_lists_78]
    refine zv_iload hX dX7_lists_78 4 rfl ?_
    refine zv_iload_n hX dX7_lists_80 3 rfl ?_
    refine zv_icmp_ge (tgt := 112) hX dX7_lists_81 rfl ?_ ?_
    · refine zv_iload_n hX dX7_lists_112 3 rfl ?_
      exact zv_ireti hX hT dX7_lists_113
    · refine zv_aload_n hX dX7_lists_84 0 rfl ?_
      refine zv_geta hX wf_X7_52 wc_7 zd_0 zj_0_8 c9_7 zr_0_8 (by decide) dX7_lists_85 ?_
      refine zv_iload_n hX dX7_lists_88 1 rfl ?_
      refine zv_iload hX dX7_lists_89 4 rfl ?_
      refine zv_aload_n hX dX7_lists_91 0 rfl ?_
      refine zv_geta hX wf_X7_45 wc_7 zd_0 zj_0_5 c9_7 zr_0_5 (by decide) dX7_lists_92 ?_
      refine zv_iload_n hX dX7_lists_95 2 rfl ?_
      refine zv_iload hX dX7_lists_96 4 rfl ?_
      refine zv_cVI [.int v2, .int v4] (rest := [.int v4, .int v1, .ref (zx_ad X 68)]) hX hT.2.2.2.2 (c_X0_partnerIn (zx_Y X) v2 v4 s) wv_X0_partnerIn c9_0 zd_60 wm_X7_228 rfl (Nat.le_of_ble_eq_true rfl) (Nat.le_of_ble_eq_true rfl) rfl (Nat.le_of_ble_eq_true rfl) dX7_lists_98 (fun r1 s2 => ?_)
      refine zv_i2l hX dX7_lists_101 ?_
      refine zv_cVJ [.int v1, .int v4, .long (r1.toInt64)] (rest := []) hX hT.2.2.2.2 (c_X6_put (zx_Y X) v1 v4 (r1.toInt64) s2) wv_X6_put c9_6 zd_68 wm_X7_322 rfl (Nat.le_of_ble_eq_true rfl) (Nat.le_of_ble_eq_true rfl) rfl (Nat.le_of_ble_eq_true rfl) dX7_lists_102 (fun r3 s4 => ?_)
      refine zv_pop2 hX dX7_lists_105 rfl ?_
      refine zv_iincB (lw := fun x5 => [(4, .int x5), (0, .ref (zx_ad X 0)), (1, .int v1), (2, .int v2), (3, .int v3)]) hX dX7_lists_106 4 rfl zi_i_1 (by decide) (fun _ => rfl) (fun x5 => ?_)
      refine zv_goto (tgt := 78) hX dX7_lists_109 rfl ?_
      exact zv_sub [1, 2, 3, 4, 0] rfl (ih v1 v2 v3 x5 s4)
def f_X7_lists (v1 : Int32) (v2 : Int32) (s : zS) : Option (Int32 × zS) :=
  zbd (f_X6_isOne v1 s) fun r6 s7 =>
  if ¬ r6 = 0 then
  (zbd (f_X6_isMissing v1 s7) fun r8 s9 =>
  if r8 = 0 then
  (if 0 ≤ v2 then
  (zbd (f_X0_learnPairings s9) fun _ s10 =>
  if v2 < (s10.1 60 8) then
  (zbd (f_X6_sizeOf v1 s10) fun r11 s12 =>
  zbd (f_J9_min_7cf53 (s10.1 3 0) r11 s12) fun r13 s14 =>
  f_X7_lists_78 zFU v1 v2 r13 (0 : Int32) s14)
  else
  some ((-5 : Int32), s10))
  else
  some ((-3 : Int32), s9))
  else
  some ((-6 : Int32), s9))
  else
  some ((-2 : Int32), s7)
set_option maxRecDepth 20000 in
theorem c_X7_lists (Y : zG) (v1 : Int32) (v2 : Int32) (s : zS) : zM Y yX7_lists cX7_lists 5 (some .int) (zR 70 1738) [.ref (zy_a Y 0), .int v1, .int v2] s zrI (f_X7_lists v1 v2 s) := by
  refine zm_start (by decide +kernel) (Nat.le_of_ble_eq_true rfl) ?_
  intro X hY hT hX
  subst hY
  have hX : zx_ok X cX7_lists RX7 5 := hX
  show zV X (zq X zrI) 5 0 [(0, .ref (zx_ad X 0)), (1, .int v1), (2, .int v2)] [] s _
  unfold f_X7_lists
  refine zv_aload_n hX dX7_lists_0 0 rfl ?_
  refine zv_geta hX wf_X7_52 wc_7 zd_0 zj_0_8 c9_7 zr_0_8 (by decide) dX7_lists_1 ?_
  refine zv_iload_n hX dX7_lists_4 1 rfl ?_
  refine zv_cVI [.int v1] (rest := []) hX hT.2.2.2.2 (c_X6_isOne (zx_Y X) v1 s) wv_X6_isOne c9_6 zd_68 wm_X7_177 rfl (Nat.le_of_ble_eq_true rfl) (Nat.le_of_ble_eq_true rfl) rfl (Nat.le_of_ble_eq_true rfl) dX7_lists_5 (fun r6 s7 => ?_)
  refine zv_if_ne (tgt := 14) hX dX7_lists_8 rfl ?_ ?_
  · refine zv_aload_n hX dX7_lists_14 0 rfl ?_
    refine zv_geta hX wf_X7_52 wc_7 zd_0 zj_0_8 c9_7 zr_0_8 (by decide) dX7_lists_15 ?_
    refine zv_iload_n hX dX7_lists_18 1 rfl ?_
    refine zv_cVI [.int v1] (rest := []) hX hT.2.2.2.2 (c_X6_isMissing (zx_Y X) v1 s7) wv_X6_isMissing c9_6 zd_68 wm_X7_180 rfl (Nat.le_of_ble_eq_true rfl) (Nat.le_of_ble_eq_true rfl) rfl (Nat.le_of_ble_eq_true rfl) dX7_lists_19 (fun r8 s9 => ?_)
    refine zv_if_eq (tgt := 28) hX dX7_lists_22 rfl ?_ ?_
    · refine zv_iload_n hX dX7_lists_28 2 rfl ?_
      refine zv_if_ge (tgt := 35) hX dX7_lists_29 rfl ?_ ?_
      · refine zv_aload_n hX dX7_lists_35 0 rfl ?_
        refine zv_geta hX wf_X7_45 wc_7 zd_0 zj_0_5 c9_7 zr_0_5 (by decide) dX7_lists_36 ?_
        refine zv_cVV [] (rest := []) hX hT.2.2.2.2 (c_X0_learnPairings (zx_Y X) s9) wv_X0_learnPairings c9_0 zd_60 wm_X7_222 rfl (Nat.le_of_ble_eq_true rfl) (Nat.le_of_ble_eq_true rfl) rfl (Nat.le_of_ble_eq_true rfl) dX7_lists_39 (fun _ s10 => ?_)
        refine zv_iload_n hX dX7_lists_42 2 rfl ?_
        refine zv_aload_n hX dX7_lists_43 0 rfl ?_
        refine zv_geta hX wf_X7_45 wc_7 zd_0 zj_0_5 c9_7 zr_0_5 (by decide) dX7_lists_44 ?_
        refine zv_geti hX wf_X7_225 wc_0 zd_60 zj_60_8 c9_0 zr_60_8 dX7_lists_47 ?_
        refine zv_icmp_lt (tgt := 56) hX dX7_lists_50 rfl ?_ ?_
        · refine zv_aload_n hX dX7_lists_56 0 rfl ?_
          refine zv_geta hX wf_X7_20 wc_7 zd_0 zj_0_2 c9_7 zr_0_2 (by decide) dX7_lists_57 ?_
          refine zv_geti hX wf_X7_215 wc_5 zd_3 zj_3_0 c9_5 zr_3_0 dX7_lists_60 ?_
          refine zv_aload_n hX dX7_lists_63 0 rfl ?_
          refine zv_geta hX wf_X7_52 wc_7 zd_0 zj_0_8 c9_7 zr_0_8 (by decide) dX7_lists_64 ?_
          refine zv_iload_n hX dX7_lists_67 1 rfl ?_
          refine zv_cVI [.int v1] (rest := [.int (s10.1 3 0)]) hX hT.2.2.2.2 (c_X6_sizeOf (zx_Y X) v1 s10) wv_X6_sizeOf c9_6 zd_68 wm_X7_259 rfl (Nat.le_of_ble_eq_true rfl) (Nat.le_of_ble_eq_true rfl) rfl (Nat.le_of_ble_eq_true rfl) dX7_lists_68 (fun r11 s12 => ?_)
          refine zv_cSI [.int (s10.1 3 0), .int r11] (rest := []) hX hT.2.2.2.2 (c_J9_min_7cf53 (zx_Y X) (s10.1 3 0) r11 s12) wv_J9_min_7cf53 wm_X7_278 rfl (Nat.le_of_ble_eq_true rfl) (Nat.le_of_ble_eq_true rfl) rfl (Nat.le_of_ble_eq_true rfl) dX7_lists_71 (fun r13 s14 => ?_)
          refine zv_istore_n (lv' := [(3, .int r13), (0, .ref (zx_ad X 0)), (1, .int v1), (2, .int v2)]) hX dX7_lists_74 (by decide) rfl ?_
          refine zv_iconst (v := (0 : Int32)) hX dX7_lists_75 zi_i_0 ?_
          refine zv_istore (lv' := [(4, .int (0 : Int32)), (3, .int r13), (0, .ref (zx_ad X 0)), (1, .int v1), (2, .int v2)]) hX dX7_lists_76 (by decide) rfl ?_
          exact zv_sub [2, 3, 4, 1, 0] rfl (b_X7_lists_78 hX hT zFU v1 v2 r13 (0 : Int32) s14)
        · refine zv_bipush (v := (-5 : Int32)) hX dX7_lists_53 zi_b_m5 ?_
          exact zv_ireti hX hT dX7_lists_55
      · refine zv_bipush (v := (-3 : Int32)) hX dX7_lists_32 zi_b_m3 ?_
        exact zv_ireti hX hT dX7_lists_34
    · refine zv_bipush (v := (-6 : Int32)) hX dX7_lists_25 zi_b_m6 ?_
      exact zv_ireti hX hT dX7_lists_27
  · refine zv_bipush (v := (-2 : Int32)) hX dX7_lists_11 zi_b_m2 ?_
    exact zv_ireti hX hT dX7_lists_13
theorem dX7_look_0 : decode cX7_look 0 = .ok (.aload_n 0, 1) := by decide +kernel
theorem dX7_look_1 : decode cX7_look 1 = .ok (.getfield 52, 3) := by decide +kernel
theorem dX7_look_4 : decode cX7_look 4 = .ok (.iload_n 1, 1) := by decide +kernel
theorem dX7_look_5 : decode cX7_look 5 = .ok (.invokevirtual 177, 3) := by decide +kernel
theorem dX7_look_8 : decode cX7_look 8 = .ok (.ifCond .ne 6, 3) := by decide +kernel
theorem dX7_look_11 : decode cX7_look 11 = .ok (.bipush (-2), 2) := by decide +kernel
theorem dX7_look_13 : decode cX7_look 13 = .ok (.ireturn, 1) := by decide +kernel
theorem dX7_look_14 : decode cX7_look 14 = .ok (.aload_n 0, 1) := by decide +kernel
theorem dX7_look_15 : decode cX7_look 15 = .ok (.iload_n 1, 1) := by decide +kernel
theorem dX7_look_16 : decode cX7_look 16 = .ok (.invokevirtual 256, 3) := by decide +kernel
theorem dX7_look_19 : decode cX7_look 19 = .ok (.istore_n 2, 1) := by decide +kernel
theorem dX7_look_20 : decode cX7_look 20 = .ok (.iload_n 2, 1) := by decide +kernel
theorem dX7_look_21 : decode cX7_look 21 = .ok (.ifCond .ge 5, 3) := by decide +kernel
theorem dX7_look_24 : decode cX7_look 24 = .ok (.iload_n 2, 1) := by decide +kernel
theorem dX7_look_25 : decode cX7_look 25 = .ok (.ireturn, 1) := by decide +kernel
theorem dX7_look_26 : decode cX7_look 26 = .ok (.iload_n 2, 1) := by decide +kernel
theorem dX7_look_27 : decode cX7_look 27 = .ok (.ifCond .ne 5, 3) := by decide +kernel
theorem dX7_look_30 : decode cX7_look 30 = .ok (.iconst (-1), 1) := by decide +kernel
theorem dX7_look_31 : decode cX7_look 31 = .ok (.ireturn, 1) := by decide +kernel
theorem dX7_look_32 : decode cX7_look 32 = .ok (.aload_n 0, 1) := by decide +kernel
theorem dX7_look_33 : decode cX7_look 33 = .ok (.getfield 20, 3) := by decide +kernel
theorem dX7_look_36 : decode cX7_look 36 = .ok (.iload_n 2, 1) := by decide +kernel
theorem dX7_look_37 : decode cX7_look 37 = .ok (.invokevirtual 271, 3) := by decide +kernel
theorem dX7_look_40 : decode cX7_look 40 = .ok (.istore_n 3, 1) := by decide +kernel
theorem dX7_look_41 : decode cX7_look 41 = .ok (.iconst (-1), 1) := by decide +kernel
theorem dX7_look_42 : decode cX7_look 42 = .ok (.istore 4, 2) := by decide +kernel
theorem dX7_look_44 : decode cX7_look 44 = .ok (.iconst (-1), 1) := by decide +kernel
theorem dX7_look_45 : decode cX7_look 45 = .ok (.istore 5, 2) := by decide +kernel
theorem dX7_look_47 : decode cX7_look 47 = .ok (.iconst 0, 1) := by decide +kernel
theorem dX7_look_48 : decode cX7_look 48 = .ok (.istore 6, 2) := by decide +kernel
theorem dX7_look_50 : decode cX7_look 50 = .ok (.iload 6, 2) := by decide +kernel
theorem dX7_look_52 : decode cX7_look 52 = .ok (.bipush 9, 2) := by decide +kernel
theorem dX7_look_54 : decode cX7_look 54 = .ok (.if_icmp .ge 58, 3) := by decide +kernel
theorem dX7_look_57 : decode cX7_look 57 = .ok (.aload_n 0, 1) := by decide +kernel
theorem dX7_look_58 : decode cX7_look 58 = .ok (.getfield 20, 3) := by decide +kernel
theorem dX7_look_61 : decode cX7_look 61 = .ok (.iload_n 2, 1) := by decide +kernel
theorem dX7_look_62 : decode cX7_look 62 = .ok (.aload_n 0, 1) := by decide +kernel
theorem dX7_look_63 : decode cX7_look 63 = .ok (.getfield 20, 3) := by decide +kernel
theorem dX7_look_66 : decode cX7_look 66 = .ok (.iconst 1, 1) := by decide +kernel
theorem dX7_look_67 : decode cX7_look 67 = .ok (.iload 6, 2) := by decide +kernel
theorem dX7_look_69 : decode cX7_look 69 = .ok (.ishl, 1) := by decide +kernel
theorem dX7_look_70 : decode cX7_look 70 = .ok (.iconst 0, 1) := by decide +kernel
theorem dX7_look_71 : decode cX7_look 71 = .ok (.invokevirtual 268, 3) := by decide +kernel
theorem dX7_look_74 : decode cX7_look 74 = .ok (.iand, 1) := by decide +kernel
theorem dX7_look_75 : decode cX7_look 75 = .ok (.invokevirtual 271, 3) := by decide +kernel
theorem dX7_look_78 : decode cX7_look 78 = .ok (.istore 7, 2) := by decide +kernel
theorem dX7_look_80 : decode cX7_look 80 = .ok (.iload 7, 2) := by decide +kernel
theorem dX7_look_82 : decode cX7_look 82 = .ok (.iload_n 3, 1) := by decide +kernel
theorem dX7_look_83 : decode cX7_look 83 = .ok (.iload 7, 2) := by decide +kernel
theorem dX7_look_85 : decode cX7_look 85 = .ok (.isub, 1) := by decide +kernel
theorem dX7_look_86 : decode cX7_look 86 = .ok (.invokestatic 278, 3) := by decide +kernel
theorem dX7_look_89 : decode cX7_look 89 = .ok (.istore 8, 2) := by decide +kernel
theorem dX7_look_91 : decode cX7_look 91 = .ok (.iload 8, 2) := by decide +kernel
theorem dX7_look_93 : decode cX7_look 93 = .ok (.iload 5, 2) := by decide +kernel
theorem dX7_look_95 : decode cX7_look 95 = .ok (.if_icmp .le 11, 3) := by decide +kernel
theorem dX7_look_98 : decode cX7_look 98 = .ok (.iload 8, 2) := by decide +kernel
theorem dX7_look_100 : decode cX7_look 100 = .ok (.istore 5, 2) := by decide +kernel
theorem dX7_look_102 : decode cX7_look 102 = .ok (.iload 6, 2) := by decide +kernel
theorem dX7_look_104 : decode cX7_look 104 = .ok (.istore 4, 2) := by decide +kernel
theorem dX7_look_106 : decode cX7_look 106 = .ok (.iinc 6 1, 3) := by decide +kernel
theorem dX7_look_109 : decode cX7_look 109 = .ok (.goto (-59), 3) := by decide +kernel
theorem dX7_look_112 : decode cX7_look 112 = .ok (.iload 4, 2) := by decide +kernel
theorem dX7_look_114 : decode cX7_look 114 = .ok (.ireturn, 1) := by decide +kernel
def f_X7_look_106 (kb_50 : Int32 → Int32 → Int32 → Int32 → Int32 → zS → Option (Int32 × zS)) (v2 : Int32) (v3 : Int32) (v4 : Int32) (v5 : Int32) (v6 : Int32) (s : zS) : Option (Int32 × zS) :=
  zb (v6 + (1 : Int32)) fun x1 =>
  kb_50 v2 v3 v4 v5 x1 s
set_option maxRecDepth 20000 in
theorem b_X7_look_106 {X : zX} {kb_50 : Int32 → Int32 → Int32 → Int32 → Int32 → zS → Option (Int32 × zS)} (hX : zx_ok X cX7_look RX7 9) (hT : zx_rt X (some .int) (zR 5 113)) (hk_50 : ∀ (v2 : Int32) (v3 : Int32) (v4 : Int32) (v5 : Int32) (v6 : Int32) (s : zS), zV X (zq X zrI) 9 50 [(0, .ref (zx_ad X 0)), (2, .int v2), (3, .int v3), (4, .int v4), (5, .int v5), (6, .int v6)] [] s (kb_50 v2 v3 v4 v5 v6 s)) : ∀ (v2 : Int32) (v3 : Int32) (v4 : Int32) (v5 : Int32) (v6 : Int32) (s : zS), zV X (zq X zrI) 9 106 [(0, .ref (zx_ad X 0)), (2, .int v2), (3, .int v3), (4, .int v4), (5, .int v5), (6, .int v6)] [] s (f_X7_look_106 kb_50 v2 v3 v4 v5 v6 s) := by
  intro v2 v3 v4 v5 v6 s
  unfold f_X7_look_106
  refine zv_iincB (lw := fun x1 => [(6, .int x1), (0, .ref (zx_ad X 0)), (2, .int v2), (3, .int v3), (4, .int v4), (5, .int v5)]) hX dX7_look_106 5 rfl zi_i_1 (by decide) (fun _ => rfl) (fun x1 => ?_)
  refine zv_goto (tgt := 50) hX dX7_look_109 rfl ?_
  exact zv_sub [1, 2, 3, 4, 5, 0] rfl (hk_50 v2 v3 v4 v5 x1 s)
def f_X7_look_50 : Nat → Int32 → Int32 → Int32 → Int32 → Int32 → zS → Option (Int32 × zS)
  | 0, _, _, _, _, _, _ => none
  | n + 1, v2, v3, v4, v5, v6, s =>
    if (nI 9) ≤ v6 then
    (some (v4, s))
    else
    zbd (f_X5_withSignsSo_3 (zo_shl (1 : Int32) v6) (0 : Int32) s) fun r2 s3 =>
    zbd (f_X5_oddsOfSet_3 (v2 &&& r2) s3) fun r4 s5 =>
    zbd (f_J9_min_7cf53 r4 (v3 - r4) s5) fun r6 s7 =>
    if r6 ≤ v5 then
    (f_X7_look_106 (f_X7_look_50 n) v2 v3 v4 v5 v6 s7)
    else
    f_X7_look_106 (f_X7_look_50 n) v2 v3 v6 r6 v6 s7
set_option maxRecDepth 20000 in
theorem b_X7_look_50 {X : zX} (hX : zx_ok X cX7_look RX7 9) (hT : zx_rt X (some .int) (zR 5 113)) : ∀ (n : Nat) (v2 : Int32) (v3 : Int32) (v4 : Int32) (v5 : Int32) (v6 : Int32) (s : zS), zV X (zq X zrI) 9 50 [(0, .ref (zx_ad X 0)), (2, .int v2), (3, .int v3), (4, .int v4), (5, .int v5), (6, .int v6)] [] s (f_X7_look_50 n v2 v3 v4 v5 v6 s) := by
  intro n
  induction n with
  | zero => intro v2 v3 v4 v5 v6 s; exact zv_none
  | succ n ih =>
    intro v2 v3 v4 v5 v6 s
    rw [f_X7_look_50]
    refine zv_iload hX dX7_look_50 5 rfl ?_
    refine zv_bipush (v := (nI 9)) hX dX7_look_52 zi_b_9 ?_
    refine zv_icmp_ge (tgt := 112) hX dX7_look_54 rfl ?_ ?_
    · refine zv_iload hX dX7_look_112 3 rfl ?_
      exact zv_ireti hX hT dX7_look_114
    · refine zv_aload_n hX dX7_look_57 0 rfl ?_
      refine zv_geta hX wf_X7_20 wc_7 zd_0 zj_0_2 c9_7 zr_0_2 (by decide) dX7_look_58 ?_
      refine zv_iload_n hX dX7_look_61 1 rfl ?_
      refine zv_aload_n hX dX7_look_62 0 rfl ?_
      refine zv_geta hX wf_X7_20 wc_7 zd_0 zj_0_2 c9_7 zr_0_2 (by decide) dX7_look_63 ?_
      refine zv_iconst (v := (1 : Int32)) hX dX7_look_66 zi_i_1 ?_
      refine zv_iload hX dX7_look_67 5 rfl ?_
      refine zv_ishl hX dX7_look_69 ?_
      refine zv_iconst (v := (0 : Int32)) hX dX7_look_70 zi_i_0 ?_
      refine zv_cVI [.int (zo_shl (1 : Int32) v6), .int (0 : Int32)] (rest := [.int v2, .ref (zx_ad X 3)]) hX hT.2.2.2.2 (c_X5_withSignsSo_3 (zx_Y X) (zo_shl (1 : Int32) v6) (0 : Int32) s) wv_X5_withSignsSo c9_5 zd_3 wm_X7_268 rfl (Nat.le_of_ble_eq_true rfl) (Nat.le_of_ble_eq_true rfl) rfl (Nat.le_of_ble_eq_true rfl) dX7_look_71 (fun r2 s3 => ?_)
      refine zv_iand hX dX7_look_74 ?_
      refine zv_cVI [.int (v2 &&& r2)] (rest := []) hX hT.2.2.2.2 (c_X5_oddsOfSet_3 (zx_Y X) (v2 &&& r2) s3) wv_X5_oddsOfSet c9_5 zd_3 wm_X7_271 rfl (Nat.le_of_ble_eq_true rfl) (Nat.le_of_ble_eq_true rfl) rfl (Nat.le_of_ble_eq_true rfl) dX7_look_75 (fun r4 s5 => ?_)
      refine zv_istore (lv' := [(7, .int r4), (0, .ref (zx_ad X 0)), (2, .int v2), (3, .int v3), (4, .int v4), (5, .int v5), (6, .int v6)]) hX dX7_look_78 (by decide) rfl ?_
      refine zv_iload hX dX7_look_80 0 rfl ?_
      refine zv_iload_n hX dX7_look_82 3 rfl ?_
      refine zv_iload hX dX7_look_83 0 rfl ?_
      refine zv_isub hX dX7_look_85 ?_
      refine zv_cSI [.int r4, .int (v3 - r4)] (rest := []) hX hT.2.2.2.2 (c_J9_min_7cf53 (zx_Y X) r4 (v3 - r4) s5) wv_J9_min_7cf53 wm_X7_278 rfl (Nat.le_of_ble_eq_true rfl) (Nat.le_of_ble_eq_true rfl) rfl (Nat.le_of_ble_eq_true rfl) dX7_look_86 (fun r6 s7 => ?_)
      refine zv_istore (lv' := [(8, .int r6), (7, .int r4), (0, .ref (zx_ad X 0)), (2, .int v2), (3, .int v3), (4, .int v4), (5, .int v5), (6, .int v6)]) hX dX7_look_89 (by decide) rfl ?_
      refine zv_iload hX dX7_look_91 0 rfl ?_
      refine zv_iload hX dX7_look_93 6 rfl ?_
      refine zv_icmp_le (tgt := 106) hX dX7_look_95 rfl ?_ ?_
      · exact zv_sub [2, 3, 4, 5, 6, 7] rfl (b_X7_look_106 hX hT ih v2 v3 v4 v5 v6 s7)
      · refine zv_iload hX dX7_look_98 0 rfl ?_
        refine zv_istore (lv' := [(5, .int r6), (8, .int r6), (7, .int r4), (0, .ref (zx_ad X 0)), (2, .int v2), (3, .int v3), (4, .int v4), (6, .int v6)]) hX dX7_look_100 (by decide) rfl ?_
        refine zv_iload hX dX7_look_102 7 rfl ?_
        refine zv_istore (lv' := [(4, .int v6), (5, .int r6), (8, .int r6), (7, .int r4), (0, .ref (zx_ad X 0)), (2, .int v2), (3, .int v3), (6, .int v6)]) hX dX7_look_104 (by decide) rfl ?_
        exact zv_sub [4, 5, 6, 0, 1, 7] rfl (b_X7_look_106 hX hT ih v2 v3 v6 r6 v6 s7)
def f_X7_look (v1 : Int32) (s : zS) : Option (Int32 × zS) :=
  zbd (f_X6_isOne v1 s) fun r8 s9 =>
  if ¬ r8 = 0 then
  (zbd (f_X7_blotted v1 s9) fun r10 s11 =>
  if 0 ≤ r10 then
  (if ¬ r10 = 0 then
  (zbd (f_X5_oddsOfSet_3 r10 s11) fun r12 s13 =>
  f_X7_look_50 zFU r10 r12 (-1 : Int32) (-1 : Int32) (0 : Int32) s13)
  else
  some ((-1 : Int32), s11))
  else
  some (r10, s11))
  else
  some ((-2 : Int32), s9)
set_option maxRecDepth 20000 in
theorem c_X7_look (Y : zG) (v1 : Int32) (s : zS) : zM Y yX7_look cX7_look 9 (some .int) (zR 5 113) [.ref (zy_a Y 0), .int v1] s zrI (f_X7_look v1 s) := by
  refine zm_start (by decide +kernel) (Nat.le_of_ble_eq_true rfl) ?_
  intro X hY hT hX
  subst hY
  have hX : zx_ok X cX7_look RX7 9 := hX
  show zV X (zq X zrI) 9 0 [(0, .ref (zx_ad X 0)), (1, .int v1)] [] s _
  unfold f_X7_look
  refine zv_aload_n hX dX7_look_0 0 rfl ?_
  refine zv_geta hX wf_X7_52 wc_7 zd_0 zj_0_8 c9_7 zr_0_8 (by decide) dX7_look_1 ?_
  refine zv_iload_n hX dX7_look_4 1 rfl ?_
  refine zv_cVI [.int v1] (rest := []) hX hT.2.2.2.2 (c_X6_isOne (zx_Y X) v1 s) wv_X6_isOne c9_6 zd_68 wm_X7_177 rfl (Nat.le_of_ble_eq_true rfl) (Nat.le_of_ble_eq_true rfl) rfl (Nat.le_of_ble_eq_true rfl) dX7_look_5 (fun r8 s9 => ?_)
  refine zv_if_ne (tgt := 14) hX dX7_look_8 rfl ?_ ?_
  · refine zv_aload_n hX dX7_look_14 0 rfl ?_
    refine zv_iload_n hX dX7_look_15 1 rfl ?_
    refine zv_cVI [.int v1] (rest := []) hX hT.2.2.2.2 (c_X7_blotted (zx_Y X) v1 s9) wv_X7_blotted c9_7 zd_0 wm_X7_256 rfl (Nat.le_of_ble_eq_true rfl) (Nat.le_of_ble_eq_true rfl) rfl (Nat.le_of_ble_eq_true rfl) dX7_look_16 (fun r10 s11 => ?_)
    refine zv_istore_n (lv' := [(2, .int r10), (0, .ref (zx_ad X 0)), (1, .int v1)]) hX dX7_look_19 (by decide) rfl ?_
    refine zv_iload_n hX dX7_look_20 0 rfl ?_
    refine zv_if_ge (tgt := 26) hX dX7_look_21 rfl ?_ ?_
    · refine zv_iload_n hX dX7_look_26 0 rfl ?_
      refine zv_if_ne (tgt := 32) hX dX7_look_27 rfl ?_ ?_
      · refine zv_aload_n hX dX7_look_32 1 rfl ?_
        refine zv_geta hX wf_X7_20 wc_7 zd_0 zj_0_2 c9_7 zr_0_2 (by decide) dX7_look_33 ?_
        refine zv_iload_n hX dX7_look_36 0 rfl ?_
        refine zv_cVI [.int r10] (rest := []) hX hT.2.2.2.2 (c_X5_oddsOfSet_3 (zx_Y X) r10 s11) wv_X5_oddsOfSet c9_5 zd_3 wm_X7_271 rfl (Nat.le_of_ble_eq_true rfl) (Nat.le_of_ble_eq_true rfl) rfl (Nat.le_of_ble_eq_true rfl) dX7_look_37 (fun r12 s13 => ?_)
        refine zv_istore_n (lv' := [(3, .int r12), (2, .int r10), (0, .ref (zx_ad X 0)), (1, .int v1)]) hX dX7_look_40 (by decide) rfl ?_
        refine zv_iconst (v := (-1 : Int32)) hX dX7_look_41 zi_i_m1 ?_
        refine zv_istore (lv' := [(4, .int (-1 : Int32)), (3, .int r12), (2, .int r10), (0, .ref (zx_ad X 0)), (1, .int v1)]) hX dX7_look_42 (by decide) rfl ?_
        refine zv_iconst (v := (-1 : Int32)) hX dX7_look_44 zi_i_m1 ?_
        refine zv_istore (lv' := [(5, .int (-1 : Int32)), (4, .int (-1 : Int32)), (3, .int r12), (2, .int r10), (0, .ref (zx_ad X 0)), (1, .int v1)]) hX dX7_look_45 (by decide) rfl ?_
        refine zv_iconst (v := (0 : Int32)) hX dX7_look_47 zi_i_0 ?_
        refine zv_istore (lv' := [(6, .int (0 : Int32)), (5, .int (-1 : Int32)), (4, .int (-1 : Int32)), (3, .int r12), (2, .int r10), (0, .ref (zx_ad X 0)), (1, .int v1)]) hX dX7_look_48 (by decide) rfl ?_
        exact zv_sub [5, 4, 3, 2, 1, 0] rfl (b_X7_look_50 hX hT zFU r10 r12 (-1 : Int32) (-1 : Int32) (0 : Int32) s13)
      · refine zv_iconst (v := (-1 : Int32)) hX dX7_look_30 zi_i_m1 ?_
        exact zv_ireti hX hT dX7_look_31
    · refine zv_iload_n hX dX7_look_24 0 rfl ?_
      exact zv_ireti hX hT dX7_look_25
  · refine zv_bipush (v := (-2 : Int32)) hX dX7_look_11 zi_b_m2 ?_
    exact zv_ireti hX hT dX7_look_13
theorem dX7_mark_0 : decode cX7_mark 0 = .ok (.aload_n 0, 1) := by decide +kernel
theorem dX7_mark_1 : decode cX7_mark 1 = .ok (.getfield 68, 3) := by decide +kernel
theorem dX7_mark_4 : decode cX7_mark 4 = .ok (.invokevirtual 149, 3) := by decide +kernel
theorem dX7_mark_7 : decode cX7_mark 7 = .ok (.aload_n 0, 1) := by decide +kernel
theorem dX7_mark_8 : decode cX7_mark 8 = .ok (.getfield 20, 3) := by decide +kernel
theorem dX7_mark_11 : decode cX7_mark 11 = .ok (.iload_n 1, 1) := by decide +kernel
theorem dX7_mark_12 : decode cX7_mark 12 = .ok (.invokevirtual 108, 3) := by decide +kernel
theorem dX7_mark_15 : decode cX7_mark 15 = .ok (.ifCond .eq 15, 3) := by decide +kernel
theorem dX7_mark_18 : decode cX7_mark 18 = .ok (.aload_n 0, 1) := by decide +kernel
theorem dX7_mark_19 : decode cX7_mark 19 = .ok (.getfield 20, 3) := by decide +kernel
theorem dX7_mark_22 : decode cX7_mark 22 = .ok (.getfield 122, 3) := by decide +kernel
theorem dX7_mark_25 : decode cX7_mark 25 = .ok (.iload_n 1, 1) := by decide +kernel
theorem dX7_mark_26 : decode cX7_mark 26 = .ok (.iaload, 1) := by decide +kernel
theorem dX7_mark_27 : decode cX7_mark 27 = .ok (.goto 4, 3) := by decide +kernel
theorem dX7_mark_30 : decode cX7_mark 30 = .ok (.iconst (-1), 1) := by decide +kernel
theorem dX7_mark_31 : decode cX7_mark 31 = .ok (.istore_n 3, 1) := by decide +kernel
theorem dX7_mark_32 : decode cX7_mark 32 = .ok (.aload_n 0, 1) := by decide +kernel
theorem dX7_mark_33 : decode cX7_mark 33 = .ok (.getfield 61, 3) := by decide +kernel
theorem dX7_mark_36 : decode cX7_mark 36 = .ok (.iload_n 1, 1) := by decide +kernel
theorem dX7_mark_37 : decode cX7_mark 37 = .ok (.iload_n 2, 1) := by decide +kernel
theorem dX7_mark_38 : decode cX7_mark 38 = .ok (.invokevirtual 167, 3) := by decide +kernel
theorem dX7_mark_41 : decode cX7_mark 41 = .ok (.istore 4, 2) := by decide +kernel
theorem dX7_mark_43 : decode cX7_mark 43 = .ok (.iload 4, 2) := by decide +kernel
theorem dX7_mark_45 : decode cX7_mark 45 = .ok (.ifCond .eq 9, 3) := by decide +kernel
theorem dX7_mark_48 : decode cX7_mark 48 = .ok (.bipush (-10), 2) := by decide +kernel
theorem dX7_mark_50 : decode cX7_mark 50 = .ok (.iload 4, 2) := by decide +kernel
theorem dX7_mark_52 : decode cX7_mark 52 = .ok (.isub, 1) := by decide +kernel
theorem dX7_mark_53 : decode cX7_mark 53 = .ok (.ireturn, 1) := by decide +kernel
theorem dX7_mark_54 : decode cX7_mark 54 = .ok (.aload_n 0, 1) := by decide +kernel
theorem dX7_mark_55 : decode cX7_mark 55 = .ok (.getfield 68, 3) := by decide +kernel
theorem dX7_mark_58 : decode cX7_mark 58 = .ok (.invokevirtual 155, 3) := by decide +kernel
theorem dX7_mark_61 : decode cX7_mark 61 = .ok (.iload_n 3, 1) := by decide +kernel
theorem dX7_mark_62 : decode cX7_mark 62 = .ok (.ireturn, 1) := by decide +kernel
def f_X7_mark_31 (v1 : Int32) (v2 : Int32) (w0 : Int32) (s : zS) : Option (Int32 × zS) :=
  zbd (f_X1_tryMark v1 v2 s) fun r1 s2 =>
  if r1 = 0 then
  (zbd (f_X2_keep s2) fun _ s3 =>
  some (w0, s3))
  else
  some ((-10 : Int32) - r1, s2)
set_option maxRecDepth 20000 in
theorem b_X7_mark_31 {X : zX} (hX : zx_ok X cX7_mark RX7 5) (hT : zx_rt X (some .int) (zR 2 100)) : ∀ (v1 : Int32) (v2 : Int32) (w0 : Int32) (s : zS), zV X (zq X zrI) 5 31 [(0, .ref (zx_ad X 0)), (1, .int v1), (2, .int v2)] [.int w0] s (f_X7_mark_31 v1 v2 w0 s) := by
  intro v1 v2 w0 s
  unfold f_X7_mark_31
  refine zv_istore_n (lv' := [(3, .int w0), (0, .ref (zx_ad X 0)), (1, .int v1), (2, .int v2)]) hX dX7_mark_31 (by decide) rfl ?_
  refine zv_aload_n hX dX7_mark_32 1 rfl ?_
  refine zv_geta hX wf_X7_61 wc_7 zd_0 zj_0_6 c9_7 zr_0_6 (by decide) dX7_mark_33 ?_
  refine zv_iload_n hX dX7_mark_36 2 rfl ?_
  refine zv_iload_n hX dX7_mark_37 3 rfl ?_
  refine zv_cVI [.int v1, .int v2] (rest := []) hX hT.2.2.2.2 (c_X1_tryMark (zx_Y X) v1 v2 s) wv_X1_tryMark c9_1 zd_72 wm_X7_167 rfl (Nat.le_of_ble_eq_true rfl) (Nat.le_of_ble_eq_true rfl) rfl (Nat.le_of_ble_eq_true rfl) dX7_mark_38 (fun r1 s2 => ?_)
  refine zv_istore (lv' := [(4, .int r1), (3, .int w0), (0, .ref (zx_ad X 0)), (1, .int v1), (2, .int v2)]) hX dX7_mark_41 (by decide) rfl ?_
  refine zv_iload hX dX7_mark_43 0 rfl ?_
  refine zv_if_eq (tgt := 54) hX dX7_mark_45 rfl ?_ ?_
  · refine zv_aload_n hX dX7_mark_54 2 rfl ?_
    refine zv_geta hX wf_X7_68 wc_7 zd_0 zj_0_7 c9_7 zr_0_7 (by decide) dX7_mark_55 ?_
    refine zv_cVV [] (rest := []) hX hT.2.2.2.2 (c_X2_keep (zx_Y X) s2) wv_X2_keep c9_2 zd_73 wm_X7_155 rfl (Nat.le_of_ble_eq_true rfl) (Nat.le_of_ble_eq_true rfl) rfl (Nat.le_of_ble_eq_true rfl) dX7_mark_58 (fun _ s3 => ?_)
    refine zv_iload_n hX dX7_mark_61 1 rfl ?_
    exact zv_ireti hX hT dX7_mark_62
  · refine zv_bipush (v := (-10 : Int32)) hX dX7_mark_48 zi_b_m10 ?_
    refine zv_iload hX dX7_mark_50 0 rfl ?_
    refine zv_isub hX dX7_mark_52 ?_
    exact zv_ireti hX hT dX7_mark_53
def f_X7_mark (v1 : Int32) (v2 : Int32) (s : zS) : Option (Int32 × zS) :=
  zbd (f_X2_hold s) fun _ s4 =>
  zbd (f_X5_has_3 v1 s4) fun r5 s6 =>
  if r5 = 0 then
  (f_X7_mark_31 v1 v2 (-1 : Int32) s6)
  else
  (zr_i s6 5 v1).bind fun x7 =>
  f_X7_mark_31 v1 v2 x7 s6
set_option maxRecDepth 20000 in
theorem c_X7_mark (Y : zG) (v1 : Int32) (v2 : Int32) (s : zS) : zM Y yX7_mark cX7_mark 5 (some .int) (zR 2 100) [.ref (zy_a Y 0), .int v1, .int v2] s zrI (f_X7_mark v1 v2 s) := by
  refine zm_start (by decide +kernel) (Nat.le_of_ble_eq_true rfl) ?_
  intro X hY hT hX
  subst hY
  have hX : zx_ok X cX7_mark RX7 5 := hX
  show zV X (zq X zrI) 5 0 [(0, .ref (zx_ad X 0)), (1, .int v1), (2, .int v2)] [] s _
  unfold f_X7_mark
  refine zv_aload_n hX dX7_mark_0 0 rfl ?_
  refine zv_geta hX wf_X7_68 wc_7 zd_0 zj_0_7 c9_7 zr_0_7 (by decide) dX7_mark_1 ?_
  refine zv_cVV [] (rest := []) hX hT.2.2.2.2 (c_X2_hold (zx_Y X) s) wv_X2_hold c9_2 zd_73 wm_X7_149 rfl (Nat.le_of_ble_eq_true rfl) (Nat.le_of_ble_eq_true rfl) rfl (Nat.le_of_ble_eq_true rfl) dX7_mark_4 (fun _ s4 => ?_)
  refine zv_aload_n hX dX7_mark_7 0 rfl ?_
  refine zv_geta hX wf_X7_20 wc_7 zd_0 zj_0_2 c9_7 zr_0_2 (by decide) dX7_mark_8 ?_
  refine zv_iload_n hX dX7_mark_11 1 rfl ?_
  refine zv_cVI [.int v1] (rest := []) hX hT.2.2.2.2 (c_X5_has_3 (zx_Y X) v1 s4) wv_X5_has c9_5 zd_3 wm_X7_108 rfl (Nat.le_of_ble_eq_true rfl) (Nat.le_of_ble_eq_true rfl) rfl (Nat.le_of_ble_eq_true rfl) dX7_mark_12 (fun r5 s6 => ?_)
  refine zv_if_eq (tgt := 30) hX dX7_mark_15 rfl ?_ ?_
  · refine zv_iconst (v := (-1 : Int32)) hX dX7_mark_30 zi_i_m1 ?_
    exact b_X7_mark_31 hX hT v1 v2 (-1 : Int32) s6
  · refine zv_aload_n hX dX7_mark_18 0 rfl ?_
    refine zv_geta hX wf_X7_20 wc_7 zd_0 zj_0_2 c9_7 zr_0_2 (by decide) dX7_mark_19 ?_
    refine zv_geta hX wf_X7_122 wc_5 zd_3 zj_3_3 c9_5 zr_3_3 (by decide) dX7_mark_22 ?_
    refine zv_iload_n hX dX7_mark_25 1 rfl ?_
    refine zv_iald hX dX7_mark_26 (fun x7 => ?_)
    refine zv_goto (tgt := 31) hX dX7_mark_27 rfl ?_
    exact b_X7_mark_31 hX hT v1 v2 x7 s6
theorem dX7_marks_0 : decode cX7_marks 0 = .ok (.aload_n 0, 1) := by decide +kernel
theorem dX7_marks_1 : decode cX7_marks 1 = .ok (.getfield 52, 3) := by decide +kernel
theorem dX7_marks_4 : decode cX7_marks 4 = .ok (.iload_n 1, 1) := by decide +kernel
theorem dX7_marks_5 : decode cX7_marks 5 = .ok (.invokevirtual 177, 3) := by decide +kernel
theorem dX7_marks_8 : decode cX7_marks 8 = .ok (.ifCond .eq 23, 3) := by decide +kernel
theorem dX7_marks_11 : decode cX7_marks 11 = .ok (.aload_n 0, 1) := by decide +kernel
theorem dX7_marks_12 : decode cX7_marks 12 = .ok (.getfield 20, 3) := by decide +kernel
theorem dX7_marks_15 : decode cX7_marks 15 = .ok (.iload_n 2, 1) := by decide +kernel
theorem dX7_marks_16 : decode cX7_marks 16 = .ok (.invokevirtual 108, 3) := by decide +kernel
theorem dX7_marks_19 : decode cX7_marks 19 = .ok (.ifCond .eq 12, 3) := by decide +kernel
theorem dX7_marks_22 : decode cX7_marks 22 = .ok (.aload_n 0, 1) := by decide +kernel
theorem dX7_marks_23 : decode cX7_marks 23 = .ok (.iload_n 1, 1) := by decide +kernel
theorem dX7_marks_24 : decode cX7_marks 24 = .ok (.iload_n 2, 1) := by decide +kernel
theorem dX7_marks_25 : decode cX7_marks 25 = .ok (.invokevirtual 283, 3) := by decide +kernel
theorem dX7_marks_28 : decode cX7_marks 28 = .ok (.goto 5, 3) := by decide +kernel
theorem dX7_marks_31 : decode cX7_marks 31 = .ok (.bipush (-2), 2) := by decide +kernel
theorem dX7_marks_33 : decode cX7_marks 33 = .ok (.ireturn, 1) := by decide +kernel
def f_X7_marks_33 (w0 : Int32) (s : zS) : Option (Int32 × zS) :=
  some (w0, s)
set_option maxRecDepth 20000 in
theorem b_X7_marks_33 {X : zX} (hX : zx_ok X cX7_marks RX7 3) (hT : zx_rt X (some .int) (zR 7 172)) : ∀ (w0 : Int32) (s : zS), zV X (zq X zrI) 3 33 [] [.int w0] s (f_X7_marks_33 w0 s) := by
  intro w0 s
  unfold f_X7_marks_33
  exact zv_ireti hX hT dX7_marks_33
def f_X7_marks_31  (s : zS) : Option (Int32 × zS) :=
  f_X7_marks_33 (-2 : Int32) s
set_option maxRecDepth 20000 in
theorem b_X7_marks_31 {X : zX} (hX : zx_ok X cX7_marks RX7 3) (hT : zx_rt X (some .int) (zR 7 172)) : ∀  (s : zS), zV X (zq X zrI) 3 31 [] [] s (f_X7_marks_31  s) := by
  intro  s
  unfold f_X7_marks_31
  refine zv_bipush (v := (-2 : Int32)) hX dX7_marks_31 zi_b_m2 ?_
  exact b_X7_marks_33 hX hT (-2 : Int32) s
def f_X7_marks (v1 : Int32) (v2 : Int32) (s : zS) : Option (Int32 × zS) :=
  zbd (f_X6_isOne v1 s) fun r1 s2 =>
  if r1 = 0 then
  (f_X7_marks_31 s2)
  else
  zbd (f_X5_has_3 v2 s2) fun r3 s4 =>
  if r3 = 0 then
  (f_X7_marks_31 s4)
  else
  zbd (f_X7_marksBy v1 v2 s4) fun r5 s6 =>
  f_X7_marks_33 r5 s6
set_option maxRecDepth 20000 in
theorem c_X7_marks (Y : zG) (v1 : Int32) (v2 : Int32) (s : zS) : zM Y yX7_marks cX7_marks 3 (some .int) (zR 7 172) [.ref (zy_a Y 0), .int v1, .int v2] s zrI (f_X7_marks v1 v2 s) := by
  refine zm_start (by decide +kernel) (Nat.le_of_ble_eq_true rfl) ?_
  intro X hY hT hX
  subst hY
  have hX : zx_ok X cX7_marks RX7 3 := hX
  show zV X (zq X zrI) 3 0 [(0, .ref (zx_ad X 0)), (1, .int v1), (2, .int v2)] [] s _
  unfold f_X7_marks
  refine zv_aload_n hX dX7_marks_0 0 rfl ?_
  refine zv_geta hX wf_X7_52 wc_7 zd_0 zj_0_8 c9_7 zr_0_8 (by decide) dX7_marks_1 ?_
  refine zv_iload_n hX dX7_marks_4 1 rfl ?_
  refine zv_cVI [.int v1] (rest := []) hX hT.2.2.2.2 (c_X6_isOne (zx_Y X) v1 s) wv_X6_isOne c9_6 zd_68 wm_X7_177 rfl (Nat.le_of_ble_eq_true rfl) (Nat.le_of_ble_eq_true rfl) rfl (Nat.le_of_ble_eq_true rfl) dX7_marks_5 (fun r1 s2 => ?_)
  refine zv_if_eq (tgt := 31) hX dX7_marks_8 rfl ?_ ?_
  · exact zv_sub [] rfl (b_X7_marks_31 hX hT  s2)
  · refine zv_aload_n hX dX7_marks_11 0 rfl ?_
    refine zv_geta hX wf_X7_20 wc_7 zd_0 zj_0_2 c9_7 zr_0_2 (by decide) dX7_marks_12 ?_
    refine zv_iload_n hX dX7_marks_15 2 rfl ?_
    refine zv_cVI [.int v2] (rest := []) hX hT.2.2.2.2 (c_X5_has_3 (zx_Y X) v2 s2) wv_X5_has c9_5 zd_3 wm_X7_108 rfl (Nat.le_of_ble_eq_true rfl) (Nat.le_of_ble_eq_true rfl) rfl (Nat.le_of_ble_eq_true rfl) dX7_marks_16 (fun r3 s4 => ?_)
    refine zv_if_eq (tgt := 31) hX dX7_marks_19 rfl ?_ ?_
    · exact zv_sub [] rfl (b_X7_marks_31 hX hT  s4)
    · refine zv_aload_n hX dX7_marks_22 0 rfl ?_
      refine zv_iload_n hX dX7_marks_23 1 rfl ?_
      refine zv_iload_n hX dX7_marks_24 2 rfl ?_
      refine zv_cVI [.int v1, .int v2] (rest := []) hX hT.2.2.2.2 (c_X7_marksBy (zx_Y X) v1 v2 s4) wv_X7_marksBy c9_7 zd_0 wm_X7_283 rfl (Nat.le_of_ble_eq_true rfl) (Nat.le_of_ble_eq_true rfl) rfl (Nat.le_of_ble_eq_true rfl) dX7_marks_25 (fun r5 s6 => ?_)
      refine zv_goto (tgt := 33) hX dX7_marks_28 rfl ?_
      exact zv_sub [] rfl (b_X7_marks_33 hX hT r5 s6)
theorem dX7_misfits_0 : decode cX7_misfits 0 = .ok (.iconst 3, 1) := by decide +kernel
theorem dX7_misfits_1 : decode cX7_misfits 1 = .ok (.istore_n 1, 1) := by decide +kernel
theorem dX7_misfits_2 : decode cX7_misfits 2 = .ok (.iload_n 1, 1) := by decide +kernel
theorem dX7_misfits_3 : decode cX7_misfits 3 = .ok (.iconst 4, 1) := by decide +kernel
theorem dX7_misfits_4 : decode cX7_misfits 4 = .ok (.if_icmp .gt 60, 3) := by decide +kernel
theorem dX7_misfits_7 : decode cX7_misfits 7 = .ok (.iconst 1, 1) := by decide +kernel
theorem dX7_misfits_8 : decode cX7_misfits 8 = .ok (.istore_n 2, 1) := by decide +kernel
theorem dX7_misfits_9 : decode cX7_misfits 9 = .ok (.iload_n 2, 1) := by decide +kernel
theorem dX7_misfits_10 : decode cX7_misfits 10 = .ok (.aload_n 0, 1) := by decide +kernel
theorem dX7_misfits_11 : decode cX7_misfits 11 = .ok (.getfield 20, 3) := by decide +kernel
theorem dX7_misfits_14 : decode cX7_misfits 14 = .ok (.invokevirtual 208, 3) := by decide +kernel
theorem dX7_misfits_17 : decode cX7_misfits 17 = .ok (.if_icmp .gt 41, 3) := by decide +kernel
theorem dX7_misfits_20 : decode cX7_misfits 20 = .ok (.iload_n 2, 1) := by decide +kernel
theorem dX7_misfits_21 : decode cX7_misfits 21 = .ok (.invokestatic 116, 3) := by decide +kernel
theorem dX7_misfits_24 : decode cX7_misfits 24 = .ok (.iload_n 1, 1) := by decide +kernel
theorem dX7_misfits_25 : decode cX7_misfits 25 = .ok (.if_icmp .ne 27, 3) := by decide +kernel
theorem dX7_misfits_28 : decode cX7_misfits 28 = .ok (.aload_n 0, 1) := by decide +kernel
theorem dX7_misfits_29 : decode cX7_misfits 29 = .ok (.getfield 36, 3) := by decide +kernel
theorem dX7_misfits_32 : decode cX7_misfits 32 = .ok (.iload_n 2, 1) := by decide +kernel
theorem dX7_misfits_33 : decode cX7_misfits 33 = .ok (.invokevirtual 250, 3) := by decide +kernel
theorem dX7_misfits_36 : decode cX7_misfits 36 = .ok (.ifCond .eq 16, 3) := by decide +kernel
theorem dX7_misfits_39 : decode cX7_misfits 39 = .ok (.aload_n 0, 1) := by decide +kernel
theorem dX7_misfits_40 : decode cX7_misfits 40 = .ok (.getfield 36, 3) := by decide +kernel
theorem dX7_misfits_43 : decode cX7_misfits 43 = .ok (.iload_n 2, 1) := by decide +kernel
theorem dX7_misfits_44 : decode cX7_misfits 44 = .ok (.invokevirtual 247, 3) := by decide +kernel
theorem dX7_misfits_47 : decode cX7_misfits 47 = .ok (.ifCond .ne 5, 3) := by decide +kernel
theorem dX7_misfits_50 : decode cX7_misfits 50 = .ok (.iload_n 2, 1) := by decide +kernel
theorem dX7_misfits_51 : decode cX7_misfits 51 = .ok (.ireturn, 1) := by decide +kernel
theorem dX7_misfits_52 : decode cX7_misfits 52 = .ok (.iinc 2 1, 3) := by decide +kernel
theorem dX7_misfits_55 : decode cX7_misfits 55 = .ok (.goto (-46), 3) := by decide +kernel
theorem dX7_misfits_58 : decode cX7_misfits 58 = .ok (.iinc 1 1, 3) := by decide +kernel
theorem dX7_misfits_61 : decode cX7_misfits 61 = .ok (.goto (-59), 3) := by decide +kernel
theorem dX7_misfits_64 : decode cX7_misfits 64 = .ok (.iconst 0, 1) := by decide +kernel
theorem dX7_misfits_65 : decode cX7_misfits 65 = .ok (.ireturn, 1) := by decide +kernel
def f_X7_misfits_52 (kb_2 : Int32 → zS → Option (Int32 × zS)) (kb_9 : Int32 → Int32 → zS → Option (Int32 × zS)) (v1 : Int32) (v2 : Int32) (s : zS) : Option (Int32 × zS) :=
  zb (v2 + (1 : Int32)) fun x1 =>
  kb_9 v1 x1 s
set_option maxRecDepth 20000 in
theorem b_X7_misfits_52 {X : zX} {kb_2 : Int32 → zS → Option (Int32 × zS)} {kb_9 : Int32 → Int32 → zS → Option (Int32 × zS)} (hX : zx_ok X cX7_misfits RX7 3) (hT : zx_rt X (some .int) (zR 68 1750)) (hk_2 : ∀ (v1 : Int32) (s : zS), zV X (zq X zrI) 3 2 [(0, .ref (zx_ad X 0)), (1, .int v1)] [] s (kb_2 v1 s)) (hk_9 : ∀ (v1 : Int32) (v2 : Int32) (s : zS), zV X (zq X zrI) 3 9 [(0, .ref (zx_ad X 0)), (1, .int v1), (2, .int v2)] [] s (kb_9 v1 v2 s)) : ∀ (v1 : Int32) (v2 : Int32) (s : zS), zV X (zq X zrI) 3 52 [(0, .ref (zx_ad X 0)), (1, .int v1), (2, .int v2)] [] s (f_X7_misfits_52 kb_2 kb_9 v1 v2 s) := by
  intro v1 v2 s
  unfold f_X7_misfits_52
  refine zv_iincB (lw := fun x1 => [(2, .int x1), (0, .ref (zx_ad X 0)), (1, .int v1)]) hX dX7_misfits_52 2 rfl zi_i_1 (by decide) (fun _ => rfl) (fun x1 => ?_)
  refine zv_goto (tgt := 9) hX dX7_misfits_55 rfl ?_
  exact zv_sub [1, 2, 0] rfl (hk_9 v1 x1 s)
def f_X7_misfits_9 (kb_2 : Int32 → zS → Option (Int32 × zS)) : Nat → Int32 → Int32 → zS → Option (Int32 × zS)
  | 0, _, _, _ => none
  | n + 1, v1, v2, s =>
    zbd (f_X5_everybody_3 s) fun r2 s3 =>
    if r2 < v2 then
    (zb (v1 + (1 : Int32)) fun x4 =>
    kb_2 x4 s3)
    else
    zbd (f_J6_bitCount_0f7a4 v2 s3) fun r5 s6 =>
    if ¬ r5 = v1 then
    (f_X7_misfits_52 kb_2 (f_X7_misfits_9 kb_2 n) v1 v2 s6)
    else
    zbd (f_X4_allTwosFit v2 s6) fun r7 s8 =>
    if r7 = 0 then
    (f_X7_misfits_52 kb_2 (f_X7_misfits_9 kb_2 n) v1 v2 s8)
    else
    zbd (f_X4_isFitting v2 s8) fun r9 s10 =>
    if ¬ r9 = 0 then
    (f_X7_misfits_52 kb_2 (f_X7_misfits_9 kb_2 n) v1 v2 s10)
    else
    some (v2, s10)
set_option maxRecDepth 20000 in
theorem b_X7_misfits_9 {X : zX} {kb_2 : Int32 → zS → Option (Int32 × zS)} (hX : zx_ok X cX7_misfits RX7 3) (hT : zx_rt X (some .int) (zR 68 1750)) (hk_2 : ∀ (v1 : Int32) (s : zS), zV X (zq X zrI) 3 2 [(0, .ref (zx_ad X 0)), (1, .int v1)] [] s (kb_2 v1 s)) : ∀ (n : Nat) (v1 : Int32) (v2 : Int32) (s : zS), zV X (zq X zrI) 3 9 [(0, .ref (zx_ad X 0)), (1, .int v1), (2, .int v2)] [] s (f_X7_misfits_9 kb_2 n v1 v2 s) := by
  intro n
  induction n with
  | zero => intro v1 v2 s; exact zv_none
  | succ n ih =>
    intro v1 v2 s
    rw [f_X7_misfits_9]
    refine zv_iload_n hX dX7_misfits_9 2 rfl ?_
    refine zv_aload_n hX dX7_misfits_10 0 rfl ?_
    refine zv_geta hX wf_X7_20 wc_7 zd_0 zj_0_2 c9_7 zr_0_2 (by decide) dX7_misfits_11 ?_
    refine zv_cVI [] (rest := [.int v2]) hX hT.2.2.2.2 (c_X5_everybody_3 (zx_Y X) s) wv_X5_everybody c9_5 zd_3 wm_X7_208 rfl (Nat.le_of_ble_eq_true rfl) (Nat.le_of_ble_eq_true rfl) rfl (Nat.le_of_ble_eq_true rfl) dX7_misfits_14 (fun r2 s3 => ?_)
    refine zv_icmp_gt (tgt := 58) hX dX7_misfits_17 rfl ?_ ?_
    · refine zv_iincB (lw := fun x4 => [(1, .int x4), (0, .ref (zx_ad X 0)), (2, .int v2)]) hX dX7_misfits_58 1 rfl zi_i_1 (by decide) (fun _ => rfl) (fun x4 => ?_)
      refine zv_goto (tgt := 2) hX dX7_misfits_61 rfl ?_
      exact zv_sub [1, 0] rfl (hk_2 x4 s3)
    · refine zv_iload_n hX dX7_misfits_20 2 rfl ?_
      refine zv_cSI [.int v2] (rest := []) hX hT.2.2.2.2 (c_J6_bitCount_0f7a4 (zx_Y X) v2 s3) wv_J6_bitCount_0f7a4 wm_X7_116 rfl (Nat.le_of_ble_eq_true rfl) (Nat.le_of_ble_eq_true rfl) rfl (Nat.le_of_ble_eq_true rfl) dX7_misfits_21 (fun r5 s6 => ?_)
      refine zv_iload_n hX dX7_misfits_24 1 rfl ?_
      refine zv_icmp_ne (tgt := 52) hX dX7_misfits_25 rfl ?_ ?_
      · exact b_X7_misfits_52 hX hT hk_2 ih v1 v2 s6
      · refine zv_aload_n hX dX7_misfits_28 0 rfl ?_
        refine zv_geta hX wf_X7_36 wc_7 zd_0 zj_0_4 c9_7 zr_0_4 (by decide) dX7_misfits_29 ?_
        refine zv_iload_n hX dX7_misfits_32 2 rfl ?_
        refine zv_cVI [.int v2] (rest := []) hX hT.2.2.2.2 (c_X4_allTwosFit (zx_Y X) v2 s6) wv_X4_allTwosFit c9_4 zd_42 wm_X7_250 rfl (Nat.le_of_ble_eq_true rfl) (Nat.le_of_ble_eq_true rfl) rfl (Nat.le_of_ble_eq_true rfl) dX7_misfits_33 (fun r7 s8 => ?_)
        refine zv_if_eq (tgt := 52) hX dX7_misfits_36 rfl ?_ ?_
        · exact b_X7_misfits_52 hX hT hk_2 ih v1 v2 s8
        · refine zv_aload_n hX dX7_misfits_39 0 rfl ?_
          refine zv_geta hX wf_X7_36 wc_7 zd_0 zj_0_4 c9_7 zr_0_4 (by decide) dX7_misfits_40 ?_
          refine zv_iload_n hX dX7_misfits_43 2 rfl ?_
          refine zv_cVI [.int v2] (rest := []) hX hT.2.2.2.2 (c_X4_isFitting (zx_Y X) v2 s8) wv_X4_isFitting c9_4 zd_42 wm_X7_247 rfl (Nat.le_of_ble_eq_true rfl) (Nat.le_of_ble_eq_true rfl) rfl (Nat.le_of_ble_eq_true rfl) dX7_misfits_44 (fun r9 s10 => ?_)
          refine zv_if_ne (tgt := 52) hX dX7_misfits_47 rfl ?_ ?_
          · exact b_X7_misfits_52 hX hT hk_2 ih v1 v2 s10
          · refine zv_iload_n hX dX7_misfits_50 2 rfl ?_
            exact zv_ireti hX hT dX7_misfits_51
def f_X7_misfits_2 : Nat → Int32 → zS → Option (Int32 × zS)
  | 0, _, _ => none
  | n + 1, v1, s =>
    if (nI 4) < v1 then
    (some ((0 : Int32), s))
    else
    f_X7_misfits_9 (f_X7_misfits_2 n) zFU v1 (1 : Int32) s
set_option maxRecDepth 20000 in
theorem b_X7_misfits_2 {X : zX} (hX : zx_ok X cX7_misfits RX7 3) (hT : zx_rt X (some .int) (zR 68 1750)) : ∀ (n : Nat) (v1 : Int32) (s : zS), zV X (zq X zrI) 3 2 [(0, .ref (zx_ad X 0)), (1, .int v1)] [] s (f_X7_misfits_2 n v1 s) := by
  intro n
  induction n with
  | zero => intro v1 s; exact zv_none
  | succ n ih =>
    intro v1 s
    rw [f_X7_misfits_2]
    refine zv_iload_n hX dX7_misfits_2 1 rfl ?_
    refine zv_iconst (v := (nI 4)) hX dX7_misfits_3 zi_i_4 ?_
    refine zv_icmp_gt (tgt := 64) hX dX7_misfits_4 rfl ?_ ?_
    · refine zv_iconst (v := (0 : Int32)) hX dX7_misfits_64 zi_i_0 ?_
      exact zv_ireti hX hT dX7_misfits_65
    · refine zv_iconst (v := (1 : Int32)) hX dX7_misfits_7 zi_i_1 ?_
      refine zv_istore_n (lv' := [(2, .int (1 : Int32)), (0, .ref (zx_ad X 0)), (1, .int v1)]) hX dX7_misfits_8 (by decide) rfl ?_
      exact zv_sub [1, 2, 0] rfl (b_X7_misfits_9 hX hT ih zFU v1 (1 : Int32) s)
def f_X7_misfits  (s : zS) : Option (Int32 × zS) :=
  f_X7_misfits_2 zFU (nI 3) s
set_option maxRecDepth 20000 in
theorem c_X7_misfits (Y : zG)  (s : zS) : zM Y yX7_misfits cX7_misfits 3 (some .int) (zR 68 1750) [.ref (zy_a Y 0)] s zrI (f_X7_misfits  s) := by
  refine zm_start (by decide +kernel) (Nat.le_of_ble_eq_true rfl) ?_
  intro X hY hT hX
  subst hY
  have hX : zx_ok X cX7_misfits RX7 3 := hX
  show zV X (zq X zrI) 3 0 [(0, .ref (zx_ad X 0))] [] s _
  unfold f_X7_misfits
  refine zv_iconst (v := (nI 3)) hX dX7_misfits_0 zi_i_3 ?_
  refine zv_istore_n (lv' := [(1, .int (nI 3)), (0, .ref (zx_ad X 0))]) hX dX7_misfits_1 (by decide) rfl ?_
  exact zv_sub [1, 0] rfl (b_X7_misfits_2 hX hT zFU (nI 3) s)
