theorem dX7_society_0 : decode cX7_society 0 = .ok (.iload_n 1, 1) := by decide +kernel
theorem dX7_society_1 : decode cX7_society 1 = .ok (.ifCond .lt 11, 3) := by decide +kernel
theorem dX7_society_4 : decode cX7_society 4 = .ok (.iload_n 1, 1) := by decide +kernel
theorem dX7_society_5 : decode cX7_society 5 = .ok (.aload_n 0, 1) := by decide +kernel
theorem dX7_society_6 : decode cX7_society 6 = .ok (.getfield 78, 3) := by decide +kernel
theorem dX7_society_9 : decode cX7_society 9 = .ok (.if_icmp .le 6, 3) := by decide +kernel
theorem dX7_society_12 : decode cX7_society 12 = .ok (.bipush (-3), 2) := by decide +kernel
theorem dX7_society_14 : decode cX7_society 14 = .ok (.ireturn, 1) := by decide +kernel
theorem dX7_society_15 : decode cX7_society 15 = .ok (.aload_n 0, 1) := by decide +kernel
theorem dX7_society_16 : decode cX7_society 16 = .ok (.iconst 0, 1) := by decide +kernel
theorem dX7_society_17 : decode cX7_society 17 = .ok (.putfield 78, 3) := by decide +kernel
theorem dX7_society_20 : decode cX7_society 20 = .ok (.aload_n 0, 1) := by decide +kernel
theorem dX7_society_21 : decode cX7_society 21 = .ok (.getfield 27, 3) := by decide +kernel
theorem dX7_society_24 : decode cX7_society 24 = .ok (.aload_n 0, 1) := by decide +kernel
theorem dX7_society_25 : decode cX7_society 25 = .ok (.getfield 9, 3) := by decide +kernel
theorem dX7_society_28 : decode cX7_society 28 = .ok (.iload_n 1, 1) := by decide +kernel
theorem dX7_society_29 : decode cX7_society 29 = .ok (.invokevirtual 86, 3) := by decide +kernel
theorem dX7_society_32 : decode cX7_society 32 = .ok (.istore_n 2, 1) := by decide +kernel
theorem dX7_society_33 : decode cX7_society 33 = .ok (.iload_n 2, 1) := by decide +kernel
theorem dX7_society_34 : decode cX7_society 34 = .ok (.ifCond .eq 8, 3) := by decide +kernel
theorem dX7_society_37 : decode cX7_society 37 = .ok (.bipush (-30), 2) := by decide +kernel
theorem dX7_society_39 : decode cX7_society 39 = .ok (.iload_n 2, 1) := by decide +kernel
theorem dX7_society_40 : decode cX7_society 40 = .ok (.isub, 1) := by decide +kernel
theorem dX7_society_41 : decode cX7_society 41 = .ok (.ireturn, 1) := by decide +kernel
theorem dX7_society_42 : decode cX7_society 42 = .ok (.aload_n 0, 1) := by decide +kernel
theorem dX7_society_43 : decode cX7_society 43 = .ok (.getfield 20, 3) := by decide +kernel
theorem dX7_society_46 : decode cX7_society 46 = .ok (.aload_n 0, 1) := by decide +kernel
theorem dX7_society_47 : decode cX7_society 47 = .ok (.getfield 27, 3) := by decide +kernel
theorem dX7_society_50 : decode cX7_society 50 = .ok (.getfield 90, 3) := by decide +kernel
theorem dX7_society_53 : decode cX7_society 53 = .ok (.invokevirtual 93, 3) := by decide +kernel
theorem dX7_society_56 : decode cX7_society 56 = .ok (.aload_n 0, 1) := by decide +kernel
theorem dX7_society_57 : decode cX7_society 57 = .ok (.getfield 68, 3) := by decide +kernel
theorem dX7_society_60 : decode cX7_society 60 = .ok (.invokevirtual 96, 3) := by decide +kernel
theorem dX7_society_63 : decode cX7_society 63 = .ok (.aload_n 0, 1) := by decide +kernel
theorem dX7_society_64 : decode cX7_society 64 = .ok (.getfield 20, 3) := by decide +kernel
theorem dX7_society_67 : decode cX7_society 67 = .ok (.getfield 99, 3) := by decide +kernel
theorem dX7_society_70 : decode cX7_society 70 = .ok (.ireturn, 1) := by decide +kernel
def f_X7_society_12  (s : zS) : Option (Int32 × zS) :=
  some ((-3 : Int32), s)
set_option maxRecDepth 20000 in
theorem b_X7_society_12 {X : zX} (hX : zx_ok X cX7_society RX7 3) (hT : zx_rt X (some .int) (zR 133 3186)) : ∀  (s : zS), zV X (zq X zrI) 3 12 [] [] s (f_X7_society_12  s) := by
  intro  s
  unfold f_X7_society_12
  refine zv_bipush (v := (-3 : Int32)) hX dX7_society_12 zi_b_m3 ?_
  exact zv_ireti hX hT dX7_society_14
def f_X7_society (v1 : Int32) (s : zS) : Option (Int32 × zS) :=
  if v1 < 0 then
  (f_X7_society_12 s)
  else
  if v1 ≤ (s.1 0 1) then
  (zb (zs_i s 0 1 (0 : Int32)) fun s1 =>
  zbd (f_X3_read 1 v1 s1) fun r2 s3 =>
  if r2 = 0 then
  (zbd (f_X5_copyFrom_3_31 s3) fun _ s4 =>
  zbd (f_X2_forget s4) fun _ s5 =>
  some (s5.1 3 1, s5))
  else
  some ((-30 : Int32) - r2, s3))
  else
  f_X7_society_12 s
set_option maxRecDepth 20000 in
theorem c_X7_society (Y : zG) (v1 : Int32) (s : zS) : zM Y yX7_society cX7_society 3 (some .int) (zR 133 3186) [.ref (zy_a Y 0), .int v1] s zrI (f_X7_society v1 s) := by
  refine zm_start (by decide +kernel) (Nat.le_of_ble_eq_true rfl) ?_
  intro X hY hT hX
  subst hY
  have hX : zx_ok X cX7_society RX7 3 := hX
  show zV X (zq X zrI) 3 0 [(0, .ref (zx_ad X 0)), (1, .int v1)] [] s _
  unfold f_X7_society
  refine zv_iload_n hX dX7_society_0 1 rfl ?_
  refine zv_if_lt (tgt := 12) hX dX7_society_1 rfl ?_ ?_
  · exact zv_sub [] rfl (b_X7_society_12 hX hT  s)
  · refine zv_iload_n hX dX7_society_4 1 rfl ?_
    refine zv_aload_n hX dX7_society_5 0 rfl ?_
    refine zv_geti hX wf_X7_78 wc_7 zd_0 zj_0_1 c9_7 zr_0_1 dX7_society_6 ?_
    refine zv_icmp_le (tgt := 15) hX dX7_society_9 rfl ?_ ?_
    · refine zv_aload_n hX dX7_society_15 0 rfl ?_
      refine zv_iconst (v := (0 : Int32)) hX dX7_society_16 zi_i_0 ?_
      refine zv_puti hX wf_X7_78 wc_7 wk_7_1 zd_0 zj_0_1 c9_7 zr_0_1 dX7_society_17 (fun s1 => ?_)
      refine zv_aload_n hX dX7_society_20 0 rfl ?_
      refine zv_geta hX wf_X7_27 wc_7 zd_0 zj_0_3 c9_7 zr_0_3 (by decide) dX7_society_21 ?_
      refine zv_aload_n hX dX7_society_24 0 rfl ?_
      refine zv_geta hX wf_X7_9 wc_7 zd_0 zj_0_0 c9_7 zr_0_0 (by decide) dX7_society_25 ?_
      refine zv_iload_n hX dX7_society_28 1 rfl ?_
      refine zv_cVI [.ref (zx_ad X 1), .int v1] (rest := []) hX hT.2.2.2.2 (c_X3_read (zx_Y X) 1 v1 s1) wv_X3_read c9_3 zd_30 wm_X7_86 rfl (Nat.le_of_ble_eq_true rfl) (Nat.le_of_ble_eq_true rfl) rfl (Nat.le_of_ble_eq_true rfl) dX7_society_29 (fun r2 s3 => ?_)
      refine zv_istore_n (lv' := [(2, .int r2), (0, .ref (zx_ad X 0)), (1, .int v1)]) hX dX7_society_32 (by decide) rfl ?_
      refine zv_iload_n hX dX7_society_33 0 rfl ?_
      refine zv_if_eq (tgt := 42) hX dX7_society_34 rfl ?_ ?_
      · refine zv_aload_n hX dX7_society_42 1 rfl ?_
        refine zv_geta hX wf_X7_20 wc_7 zd_0 zj_0_2 c9_7 zr_0_2 (by decide) dX7_society_43 ?_
        refine zv_aload_n hX dX7_society_46 1 rfl ?_
        refine zv_geta hX wf_X7_27 wc_7 zd_0 zj_0_3 c9_7 zr_0_3 (by decide) dX7_society_47 ?_
        refine zv_geta hX wf_X7_90 wc_3 zd_30 zj_30_0 c9_3 zr_30_0 (by decide) dX7_society_50 ?_
        refine zv_cVV [.ref (zx_ad X 31)] (rest := []) hX hT.2.2.2.2 (c_X5_copyFrom_3_31 (zx_Y X) s3) wv_X5_copyFrom c9_5 zd_3 wm_X7_93 rfl (Nat.le_of_ble_eq_true rfl) (Nat.le_of_ble_eq_true rfl) rfl (Nat.le_of_ble_eq_true rfl) dX7_society_53 (fun _ s4 => ?_)
        refine zv_aload_n hX dX7_society_56 1 rfl ?_
        refine zv_geta hX wf_X7_68 wc_7 zd_0 zj_0_7 c9_7 zr_0_7 (by decide) dX7_society_57 ?_
        refine zv_cVV [] (rest := []) hX hT.2.2.2.2 (c_X2_forget (zx_Y X) s4) wv_X2_forget c9_2 zd_73 wm_X7_96 rfl (Nat.le_of_ble_eq_true rfl) (Nat.le_of_ble_eq_true rfl) rfl (Nat.le_of_ble_eq_true rfl) dX7_society_60 (fun _ s5 => ?_)
        refine zv_aload_n hX dX7_society_63 1 rfl ?_
        refine zv_geta hX wf_X7_20 wc_7 zd_0 zj_0_2 c9_7 zr_0_2 (by decide) dX7_society_64 ?_
        refine zv_geti hX wf_X7_99 wc_5 zd_3 zj_3_1 c9_5 zr_3_1 dX7_society_67 ?_
        exact zv_ireti hX hT dX7_society_70
      · refine zv_bipush (v := (-30 : Int32)) hX dX7_society_37 zi_b_m30 ?_
        refine zv_iload_n hX dX7_society_39 0 rfl ?_
        refine zv_isub hX dX7_society_40 ?_
        exact zv_ireti hX hT dX7_society_41
    · exact zv_sub [] rfl (b_X7_society_12 hX hT  s)
theorem dX7_stroke_0 : decode cX7_stroke 0 = .ok (.aload_n 0, 1) := by decide +kernel
theorem dX7_stroke_1 : decode cX7_stroke 1 = .ok (.getfield 68, 3) := by decide +kernel
theorem dX7_stroke_4 : decode cX7_stroke 4 = .ok (.invokevirtual 149, 3) := by decide +kernel
theorem dX7_stroke_7 : decode cX7_stroke 7 = .ok (.aload_n 0, 1) := by decide +kernel
theorem dX7_stroke_8 : decode cX7_stroke 8 = .ok (.getfield 61, 3) := by decide +kernel
theorem dX7_stroke_11 : decode cX7_stroke 11 = .ok (.iload_n 1, 1) := by decide +kernel
theorem dX7_stroke_12 : decode cX7_stroke 12 = .ok (.iload_n 2, 1) := by decide +kernel
theorem dX7_stroke_13 : decode cX7_stroke 13 = .ok (.invokevirtual 164, 3) := by decide +kernel
theorem dX7_stroke_16 : decode cX7_stroke 16 = .ok (.istore_n 3, 1) := by decide +kernel
theorem dX7_stroke_17 : decode cX7_stroke 17 = .ok (.iload_n 3, 1) := by decide +kernel
theorem dX7_stroke_18 : decode cX7_stroke 18 = .ok (.ifCond .eq 8, 3) := by decide +kernel
theorem dX7_stroke_21 : decode cX7_stroke 21 = .ok (.bipush (-10), 2) := by decide +kernel
theorem dX7_stroke_23 : decode cX7_stroke 23 = .ok (.iload_n 3, 1) := by decide +kernel
theorem dX7_stroke_24 : decode cX7_stroke 24 = .ok (.isub, 1) := by decide +kernel
theorem dX7_stroke_25 : decode cX7_stroke 25 = .ok (.ireturn, 1) := by decide +kernel
theorem dX7_stroke_26 : decode cX7_stroke 26 = .ok (.aload_n 0, 1) := by decide +kernel
theorem dX7_stroke_27 : decode cX7_stroke 27 = .ok (.getfield 68, 3) := by decide +kernel
theorem dX7_stroke_30 : decode cX7_stroke 30 = .ok (.invokevirtual 155, 3) := by decide +kernel
theorem dX7_stroke_33 : decode cX7_stroke 33 = .ok (.aload_n 0, 1) := by decide +kernel
theorem dX7_stroke_34 : decode cX7_stroke 34 = .ok (.getfield 20, 3) := by decide +kernel
theorem dX7_stroke_37 : decode cX7_stroke 37 = .ok (.getfield 112, 3) := by decide +kernel
theorem dX7_stroke_40 : decode cX7_stroke 40 = .ok (.iload_n 1, 1) := by decide +kernel
theorem dX7_stroke_41 : decode cX7_stroke 41 = .ok (.iaload, 1) := by decide +kernel
theorem dX7_stroke_42 : decode cX7_stroke 42 = .ok (.iload_n 2, 1) := by decide +kernel
theorem dX7_stroke_43 : decode cX7_stroke 43 = .ok (.iushr, 1) := by decide +kernel
theorem dX7_stroke_44 : decode cX7_stroke 44 = .ok (.iconst 1, 1) := by decide +kernel
theorem dX7_stroke_45 : decode cX7_stroke 45 = .ok (.iand, 1) := by decide +kernel
theorem dX7_stroke_46 : decode cX7_stroke 46 = .ok (.ireturn, 1) := by decide +kernel
def f_X7_stroke (v1 : Int32) (v2 : Int32) (s : zS) : Option (Int32 × zS) :=
  zbd (f_X2_hold s) fun _ s1 =>
  zbd (f_X1_tryStroke v1 v2 s1) fun r2 s3 =>
  if r2 = 0 then
  (zbd (f_X2_keep s3) fun _ s4 =>
  (zr_i s4 4 v1).bind fun x5 =>
  some ((zo_ush x5 v2) &&& (1 : Int32), s4))
  else
  some ((-10 : Int32) - r2, s3)
set_option maxRecDepth 20000 in
theorem c_X7_stroke (Y : zG) (v1 : Int32) (v2 : Int32) (s : zS) : zM Y yX7_stroke cX7_stroke 4 (some .int) (zR 2 100) [.ref (zy_a Y 0), .int v1, .int v2] s zrI (f_X7_stroke v1 v2 s) := by
  refine zm_start (by decide +kernel) (Nat.le_of_ble_eq_true rfl) ?_
  intro X hY hT hX
  subst hY
  have hX : zx_ok X cX7_stroke RX7 4 := hX
  show zV X (zq X zrI) 4 0 [(0, .ref (zx_ad X 0)), (1, .int v1), (2, .int v2)] [] s _
  unfold f_X7_stroke
  refine zv_aload_n hX dX7_stroke_0 0 rfl ?_
  refine zv_geta hX wf_X7_68 wc_7 zd_0 zj_0_7 c9_7 zr_0_7 (by decide) dX7_stroke_1 ?_
  refine zv_cVV [] (rest := []) hX hT.2.2.2.2 (c_X2_hold (zx_Y X) s) wv_X2_hold c9_2 zd_73 wm_X7_149 rfl (Nat.le_of_ble_eq_true rfl) (Nat.le_of_ble_eq_true rfl) rfl (Nat.le_of_ble_eq_true rfl) dX7_stroke_4 (fun _ s1 => ?_)
  refine zv_aload_n hX dX7_stroke_7 0 rfl ?_
  refine zv_geta hX wf_X7_61 wc_7 zd_0 zj_0_6 c9_7 zr_0_6 (by decide) dX7_stroke_8 ?_
  refine zv_iload_n hX dX7_stroke_11 1 rfl ?_
  refine zv_iload_n hX dX7_stroke_12 2 rfl ?_
  refine zv_cVI [.int v1, .int v2] (rest := []) hX hT.2.2.2.2 (c_X1_tryStroke (zx_Y X) v1 v2 s1) wv_X1_tryStroke c9_1 zd_72 wm_X7_164 rfl (Nat.le_of_ble_eq_true rfl) (Nat.le_of_ble_eq_true rfl) rfl (Nat.le_of_ble_eq_true rfl) dX7_stroke_13 (fun r2 s3 => ?_)
  refine zv_istore_n (lv' := [(3, .int r2), (0, .ref (zx_ad X 0)), (1, .int v1), (2, .int v2)]) hX dX7_stroke_16 (by decide) rfl ?_
  refine zv_iload_n hX dX7_stroke_17 0 rfl ?_
  refine zv_if_eq (tgt := 26) hX dX7_stroke_18 rfl ?_ ?_
  · refine zv_aload_n hX dX7_stroke_26 1 rfl ?_
    refine zv_geta hX wf_X7_68 wc_7 zd_0 zj_0_7 c9_7 zr_0_7 (by decide) dX7_stroke_27 ?_
    refine zv_cVV [] (rest := []) hX hT.2.2.2.2 (c_X2_keep (zx_Y X) s3) wv_X2_keep c9_2 zd_73 wm_X7_155 rfl (Nat.le_of_ble_eq_true rfl) (Nat.le_of_ble_eq_true rfl) rfl (Nat.le_of_ble_eq_true rfl) dX7_stroke_30 (fun _ s4 => ?_)
    refine zv_aload_n hX dX7_stroke_33 1 rfl ?_
    refine zv_geta hX wf_X7_20 wc_7 zd_0 zj_0_2 c9_7 zr_0_2 (by decide) dX7_stroke_34 ?_
    refine zv_geta hX wf_X7_112 wc_5 zd_3 zj_3_2 c9_5 zr_3_2 (by decide) dX7_stroke_37 ?_
    refine zv_iload_n hX dX7_stroke_40 2 rfl ?_
    refine zv_iald hX dX7_stroke_41 (fun x5 => ?_)
    refine zv_iload_n hX dX7_stroke_42 3 rfl ?_
    refine zv_iushr hX dX7_stroke_43 ?_
    refine zv_iconst (v := (1 : Int32)) hX dX7_stroke_44 zi_i_1 ?_
    refine zv_iand hX dX7_stroke_45 ?_
    exact zv_ireti hX hT dX7_stroke_46
  · refine zv_bipush (v := (-10 : Int32)) hX dX7_stroke_21 zi_b_m10 ?_
    refine zv_iload_n hX dX7_stroke_23 0 rfl ?_
    refine zv_isub hX dX7_stroke_24 ?_
    exact zv_ireti hX hT dX7_stroke_25
theorem dX7_sure_0 : decode cX7_sure 0 = .ok (.aload_n 0, 1) := by decide +kernel
theorem dX7_sure_1 : decode cX7_sure 1 = .ok (.getfield 45, 3) := by decide +kernel
theorem dX7_sure_4 : decode cX7_sure 4 = .ok (.invokevirtual 222, 3) := by decide +kernel
theorem dX7_sure_7 : decode cX7_sure 7 = .ok (.aload_n 0, 1) := by decide +kernel
theorem dX7_sure_8 : decode cX7_sure 8 = .ok (.getfield 20, 3) := by decide +kernel
theorem dX7_sure_11 : decode cX7_sure 11 = .ok (.invokevirtual 208, 3) := by decide +kernel
theorem dX7_sure_14 : decode cX7_sure 14 = .ok (.istore_n 1, 1) := by decide +kernel
theorem dX7_sure_15 : decode cX7_sure 15 = .ok (.iconst 0, 1) := by decide +kernel
theorem dX7_sure_16 : decode cX7_sure 16 = .ok (.istore_n 2, 1) := by decide +kernel
theorem dX7_sure_17 : decode cX7_sure 17 = .ok (.iload_n 2, 1) := by decide +kernel
theorem dX7_sure_18 : decode cX7_sure 18 = .ok (.aload_n 0, 1) := by decide +kernel
theorem dX7_sure_19 : decode cX7_sure 19 = .ok (.getfield 20, 3) := by decide +kernel
theorem dX7_sure_22 : decode cX7_sure 22 = .ok (.getfield 215, 3) := by decide +kernel
theorem dX7_sure_25 : decode cX7_sure 25 = .ok (.if_icmp .ge 57, 3) := by decide +kernel
theorem dX7_sure_28 : decode cX7_sure 28 = .ok (.iconst 1, 1) := by decide +kernel
theorem dX7_sure_29 : decode cX7_sure 29 = .ok (.istore_n 3, 1) := by decide +kernel
theorem dX7_sure_30 : decode cX7_sure 30 = .ok (.iload_n 3, 1) := by decide +kernel
theorem dX7_sure_31 : decode cX7_sure 31 = .ok (.aload_n 0, 1) := by decide +kernel
theorem dX7_sure_32 : decode cX7_sure 32 = .ok (.getfield 45, 3) := by decide +kernel
theorem dX7_sure_35 : decode cX7_sure 35 = .ok (.getfield 225, 3) := by decide +kernel
theorem dX7_sure_38 : decode cX7_sure 38 = .ok (.if_icmp .ge 38, 3) := by decide +kernel
theorem dX7_sure_41 : decode cX7_sure 41 = .ok (.aload_n 0, 1) := by decide +kernel
theorem dX7_sure_42 : decode cX7_sure 42 = .ok (.getfield 45, 3) := by decide +kernel
theorem dX7_sure_45 : decode cX7_sure 45 = .ok (.iload_n 3, 1) := by decide +kernel
theorem dX7_sure_46 : decode cX7_sure 46 = .ok (.iload_n 2, 1) := by decide +kernel
theorem dX7_sure_47 : decode cX7_sure 47 = .ok (.invokevirtual 228, 3) := by decide +kernel
theorem dX7_sure_50 : decode cX7_sure 50 = .ok (.aload_n 0, 1) := by decide +kernel
theorem dX7_sure_51 : decode cX7_sure 51 = .ok (.getfield 45, 3) := by decide +kernel
theorem dX7_sure_54 : decode cX7_sure 54 = .ok (.iconst 0, 1) := by decide +kernel
theorem dX7_sure_55 : decode cX7_sure 55 = .ok (.iload_n 2, 1) := by decide +kernel
theorem dX7_sure_56 : decode cX7_sure 56 = .ok (.invokevirtual 228, 3) := by decide +kernel
theorem dX7_sure_59 : decode cX7_sure 59 = .ok (.if_icmp .eq 11, 3) := by decide +kernel
theorem dX7_sure_62 : decode cX7_sure 62 = .ok (.iload_n 1, 1) := by decide +kernel
theorem dX7_sure_63 : decode cX7_sure 63 = .ok (.iconst 1, 1) := by decide +kernel
theorem dX7_sure_64 : decode cX7_sure 64 = .ok (.iload_n 2, 1) := by decide +kernel
theorem dX7_sure_65 : decode cX7_sure 65 = .ok (.ishl, 1) := by decide +kernel
theorem dX7_sure_66 : decode cX7_sure 66 = .ok (.iconst (-1), 1) := by decide +kernel
theorem dX7_sure_67 : decode cX7_sure 67 = .ok (.ixor, 1) := by decide +kernel
theorem dX7_sure_68 : decode cX7_sure 68 = .ok (.iand, 1) := by decide +kernel
theorem dX7_sure_69 : decode cX7_sure 69 = .ok (.istore_n 1, 1) := by decide +kernel
theorem dX7_sure_70 : decode cX7_sure 70 = .ok (.iinc 3 1, 3) := by decide +kernel
theorem dX7_sure_73 : decode cX7_sure 73 = .ok (.goto (-43), 3) := by decide +kernel
theorem dX7_sure_76 : decode cX7_sure 76 = .ok (.iinc 2 1, 3) := by decide +kernel
theorem dX7_sure_79 : decode cX7_sure 79 = .ok (.goto (-62), 3) := by decide +kernel
theorem dX7_sure_82 : decode cX7_sure 82 = .ok (.iload_n 1, 1) := by decide +kernel
theorem dX7_sure_83 : decode cX7_sure 83 = .ok (.ireturn, 1) := by decide +kernel
def f_X7_sure_70 (kb_17 : Int32 → Int32 → zS → Option (Int32 × zS)) (kb_30 : Int32 → Int32 → Int32 → zS → Option (Int32 × zS)) (v1 : Int32) (v2 : Int32) (v3 : Int32) (s : zS) : Option (Int32 × zS) :=
  zb (v3 + (1 : Int32)) fun x1 =>
  kb_30 v1 v2 x1 s
set_option maxRecDepth 20000 in
theorem b_X7_sure_70 {X : zX} {kb_17 : Int32 → Int32 → zS → Option (Int32 × zS)} {kb_30 : Int32 → Int32 → Int32 → zS → Option (Int32 × zS)} (hX : zx_ok X cX7_sure RX7 4) (hT : zx_rt X (some .int) (zR 70 1738)) (hk_17 : ∀ (v1 : Int32) (v2 : Int32) (s : zS), zV X (zq X zrI) 4 17 [(0, .ref (zx_ad X 0)), (1, .int v1), (2, .int v2)] [] s (kb_17 v1 v2 s)) (hk_30 : ∀ (v1 : Int32) (v2 : Int32) (v3 : Int32) (s : zS), zV X (zq X zrI) 4 30 [(0, .ref (zx_ad X 0)), (1, .int v1), (2, .int v2), (3, .int v3)] [] s (kb_30 v1 v2 v3 s)) : ∀ (v1 : Int32) (v2 : Int32) (v3 : Int32) (s : zS), zV X (zq X zrI) 4 70 [(0, .ref (zx_ad X 0)), (1, .int v1), (2, .int v2), (3, .int v3)] [] s (f_X7_sure_70 kb_17 kb_30 v1 v2 v3 s) := by
  intro v1 v2 v3 s
  unfold f_X7_sure_70
  refine zv_iincB (lw := fun x1 => [(3, .int x1), (0, .ref (zx_ad X 0)), (1, .int v1), (2, .int v2)]) hX dX7_sure_70 3 rfl zi_i_1 (by decide) (fun _ => rfl) (fun x1 => ?_)
  refine zv_goto (tgt := 30) hX dX7_sure_73 rfl ?_
  exact zv_sub [1, 2, 3, 0] rfl (hk_30 v1 v2 x1 s)
def f_X7_sure_30 (kb_17 : Int32 → Int32 → zS → Option (Int32 × zS)) : Nat → Int32 → Int32 → Int32 → zS → Option (Int32 × zS)
  | 0, _, _, _, _ => none
  | n + 1, v1, v2, v3, s =>
    if (s.1 60 8) ≤ v3 then
    (zb (v2 + (1 : Int32)) fun x2 =>
    kb_17 v1 x2 s)
    else
    zbd (f_X0_partnerIn v3 v2 s) fun r3 s4 =>
    zbd (f_X0_partnerIn (0 : Int32) v2 s4) fun r5 s6 =>
    if r3 = r5 then
    (f_X7_sure_70 kb_17 (f_X7_sure_30 kb_17 n) v1 v2 v3 s6)
    else
    zb (v1 &&& ((zo_shl (1 : Int32) v2) ^^^ (-1 : Int32))) fun x7 =>
    f_X7_sure_70 kb_17 (f_X7_sure_30 kb_17 n) x7 v2 v3 s6
set_option maxRecDepth 20000 in
theorem b_X7_sure_30 {X : zX} {kb_17 : Int32 → Int32 → zS → Option (Int32 × zS)} (hX : zx_ok X cX7_sure RX7 4) (hT : zx_rt X (some .int) (zR 70 1738)) (hk_17 : ∀ (v1 : Int32) (v2 : Int32) (s : zS), zV X (zq X zrI) 4 17 [(0, .ref (zx_ad X 0)), (1, .int v1), (2, .int v2)] [] s (kb_17 v1 v2 s)) : ∀ (n : Nat) (v1 : Int32) (v2 : Int32) (v3 : Int32) (s : zS), zV X (zq X zrI) 4 30 [(0, .ref (zx_ad X 0)), (1, .int v1), (2, .int v2), (3, .int v3)] [] s (f_X7_sure_30 kb_17 n v1 v2 v3 s) := by
  intro n
  induction n with
  | zero => intro v1 v2 v3 s; exact zv_none
  | succ n ih =>
    intro v1 v2 v3 s
    rw [f_X7_sure_30]
    refine zv_iload_n hX dX7_sure_30 3 rfl ?_
    refine zv_aload_n hX dX7_sure_31 0 rfl ?_
    refine zv_geta hX wf_X7_45 wc_7 zd_0 zj_0_5 c9_7 zr_0_5 (by decide) dX7_sure_32 ?_
    refine zv_geti hX wf_X7_225 wc_0 zd_60 zj_60_8 c9_0 zr_60_8 dX7_sure_35 ?_
    refine zv_icmp_ge (tgt := 76) hX dX7_sure_38 rfl ?_ ?_
    · refine zv_iincB (lw := fun x2 => [(2, .int x2), (0, .ref (zx_ad X 0)), (1, .int v1), (3, .int v3)]) hX dX7_sure_76 2 rfl zi_i_1 (by decide) (fun _ => rfl) (fun x2 => ?_)
      refine zv_goto (tgt := 17) hX dX7_sure_79 rfl ?_
      exact zv_sub [1, 2, 0] rfl (hk_17 v1 x2 s)
    · refine zv_aload_n hX dX7_sure_41 0 rfl ?_
      refine zv_geta hX wf_X7_45 wc_7 zd_0 zj_0_5 c9_7 zr_0_5 (by decide) dX7_sure_42 ?_
      refine zv_iload_n hX dX7_sure_45 3 rfl ?_
      refine zv_iload_n hX dX7_sure_46 2 rfl ?_
      refine zv_cVI [.int v3, .int v2] (rest := []) hX hT.2.2.2.2 (c_X0_partnerIn (zx_Y X) v3 v2 s) wv_X0_partnerIn c9_0 zd_60 wm_X7_228 rfl (Nat.le_of_ble_eq_true rfl) (Nat.le_of_ble_eq_true rfl) rfl (Nat.le_of_ble_eq_true rfl) dX7_sure_47 (fun r3 s4 => ?_)
      refine zv_aload_n hX dX7_sure_50 0 rfl ?_
      refine zv_geta hX wf_X7_45 wc_7 zd_0 zj_0_5 c9_7 zr_0_5 (by decide) dX7_sure_51 ?_
      refine zv_iconst (v := (0 : Int32)) hX dX7_sure_54 zi_i_0 ?_
      refine zv_iload_n hX dX7_sure_55 2 rfl ?_
      refine zv_cVI [.int (0 : Int32), .int v2] (rest := [.int r3]) hX hT.2.2.2.2 (c_X0_partnerIn (zx_Y X) (0 : Int32) v2 s4) wv_X0_partnerIn c9_0 zd_60 wm_X7_228 rfl (Nat.le_of_ble_eq_true rfl) (Nat.le_of_ble_eq_true rfl) rfl (Nat.le_of_ble_eq_true rfl) dX7_sure_56 (fun r5 s6 => ?_)
      refine zv_icmp_eq (tgt := 70) hX dX7_sure_59 rfl ?_ ?_
      · exact b_X7_sure_70 hX hT hk_17 ih v1 v2 v3 s6
      · refine zv_iload_n hX dX7_sure_62 1 rfl ?_
        refine zv_iconst (v := (1 : Int32)) hX dX7_sure_63 zi_i_1 ?_
        refine zv_iload_n hX dX7_sure_64 2 rfl ?_
        refine zv_ishl hX dX7_sure_65 ?_
        refine zv_iconst (v := (-1 : Int32)) hX dX7_sure_66 zi_i_m1 ?_
        refine zv_ixor hX dX7_sure_67 ?_
        refine zv_iand hX dX7_sure_68 ?_
        refine zv_istB_n (lw := fun x7 => [(1, .int x7), (0, .ref (zx_ad X 0)), (2, .int v2), (3, .int v3)]) hX dX7_sure_69 (by decide) (fun _ => rfl) (fun x7 => ?_)
        exact zv_sub [1, 0, 2, 3] rfl (b_X7_sure_70 hX hT hk_17 ih x7 v2 v3 s6)
def f_X7_sure_17 : Nat → Int32 → Int32 → zS → Option (Int32 × zS)
  | 0, _, _, _ => none
  | n + 1, v1, v2, s =>
    if (s.1 3 0) ≤ v2 then
    (some (v1, s))
    else
    f_X7_sure_30 (f_X7_sure_17 n) zFU v1 v2 (1 : Int32) s
set_option maxRecDepth 20000 in
theorem b_X7_sure_17 {X : zX} (hX : zx_ok X cX7_sure RX7 4) (hT : zx_rt X (some .int) (zR 70 1738)) : ∀ (n : Nat) (v1 : Int32) (v2 : Int32) (s : zS), zV X (zq X zrI) 4 17 [(0, .ref (zx_ad X 0)), (1, .int v1), (2, .int v2)] [] s (f_X7_sure_17 n v1 v2 s) := by
  intro n
  induction n with
  | zero => intro v1 v2 s; exact zv_none
  | succ n ih =>
    intro v1 v2 s
    rw [f_X7_sure_17]
    refine zv_iload_n hX dX7_sure_17 2 rfl ?_
    refine zv_aload_n hX dX7_sure_18 0 rfl ?_
    refine zv_geta hX wf_X7_20 wc_7 zd_0 zj_0_2 c9_7 zr_0_2 (by decide) dX7_sure_19 ?_
    refine zv_geti hX wf_X7_215 wc_5 zd_3 zj_3_0 c9_5 zr_3_0 dX7_sure_22 ?_
    refine zv_icmp_ge (tgt := 82) hX dX7_sure_25 rfl ?_ ?_
    · refine zv_iload_n hX dX7_sure_82 1 rfl ?_
      exact zv_ireti hX hT dX7_sure_83
    · refine zv_iconst (v := (1 : Int32)) hX dX7_sure_28 zi_i_1 ?_
      refine zv_istore_n (lv' := [(3, .int (1 : Int32)), (0, .ref (zx_ad X 0)), (1, .int v1), (2, .int v2)]) hX dX7_sure_29 (by decide) rfl ?_
      exact zv_sub [1, 2, 3, 0] rfl (b_X7_sure_30 hX hT ih zFU v1 v2 (1 : Int32) s)
def f_X7_sure  (s : zS) : Option (Int32 × zS) :=
  zbd (f_X0_learnPairings s) fun _ s8 =>
  zbd (f_X5_everybody_3 s8) fun r9 s10 =>
  f_X7_sure_17 zFU r9 (0 : Int32) s10
set_option maxRecDepth 20000 in
theorem c_X7_sure (Y : zG)  (s : zS) : zM Y yX7_sure cX7_sure 4 (some .int) (zR 70 1738) [.ref (zy_a Y 0)] s zrI (f_X7_sure  s) := by
  refine zm_start (by decide +kernel) (Nat.le_of_ble_eq_true rfl) ?_
  intro X hY hT hX
  subst hY
  have hX : zx_ok X cX7_sure RX7 4 := hX
  show zV X (zq X zrI) 4 0 [(0, .ref (zx_ad X 0))] [] s _
  unfold f_X7_sure
  refine zv_aload_n hX dX7_sure_0 0 rfl ?_
  refine zv_geta hX wf_X7_45 wc_7 zd_0 zj_0_5 c9_7 zr_0_5 (by decide) dX7_sure_1 ?_
  refine zv_cVV [] (rest := []) hX hT.2.2.2.2 (c_X0_learnPairings (zx_Y X) s) wv_X0_learnPairings c9_0 zd_60 wm_X7_222 rfl (Nat.le_of_ble_eq_true rfl) (Nat.le_of_ble_eq_true rfl) rfl (Nat.le_of_ble_eq_true rfl) dX7_sure_4 (fun _ s8 => ?_)
  refine zv_aload_n hX dX7_sure_7 0 rfl ?_
  refine zv_geta hX wf_X7_20 wc_7 zd_0 zj_0_2 c9_7 zr_0_2 (by decide) dX7_sure_8 ?_
  refine zv_cVI [] (rest := []) hX hT.2.2.2.2 (c_X5_everybody_3 (zx_Y X) s8) wv_X5_everybody c9_5 zd_3 wm_X7_208 rfl (Nat.le_of_ble_eq_true rfl) (Nat.le_of_ble_eq_true rfl) rfl (Nat.le_of_ble_eq_true rfl) dX7_sure_11 (fun r9 s10 => ?_)
  refine zv_istore_n (lv' := [(1, .int r9), (0, .ref (zx_ad X 0))]) hX dX7_sure_14 (by decide) rfl ?_
  refine zv_iconst (v := (0 : Int32)) hX dX7_sure_15 zi_i_0 ?_
  refine zv_istore_n (lv' := [(2, .int (0 : Int32)), (1, .int r9), (0, .ref (zx_ad X 0))]) hX dX7_sure_16 (by decide) rfl ?_
  exact zv_sub [2, 1, 0] rfl (b_X7_sure_17 hX hT zFU r9 (0 : Int32) s10)
theorem dX7_triangle_0 : decode cX7_triangle 0 = .ok (.aload_n 0, 1) := by decide +kernel
theorem dX7_triangle_1 : decode cX7_triangle 1 = .ok (.getfield 45, 3) := by decide +kernel
theorem dX7_triangle_4 : decode cX7_triangle 4 = .ok (.invokevirtual 205, 3) := by decide +kernel
theorem dX7_triangle_7 : decode cX7_triangle 7 = .ok (.iconst 0, 1) := by decide +kernel
theorem dX7_triangle_8 : decode cX7_triangle 8 = .ok (.istore_n 1, 1) := by decide +kernel
theorem dX7_triangle_9 : decode cX7_triangle 9 = .ok (.iload_n 1, 1) := by decide +kernel
theorem dX7_triangle_10 : decode cX7_triangle 10 = .ok (.aload_n 0, 1) := by decide +kernel
theorem dX7_triangle_11 : decode cX7_triangle 11 = .ok (.getfield 20, 3) := by decide +kernel
theorem dX7_triangle_14 : decode cX7_triangle 14 = .ok (.getfield 215, 3) := by decide +kernel
theorem dX7_triangle_17 : decode cX7_triangle 17 = .ok (.if_icmp .ge 81, 3) := by decide +kernel
theorem dX7_triangle_20 : decode cX7_triangle 20 = .ok (.iload_n 1, 1) := by decide +kernel
theorem dX7_triangle_21 : decode cX7_triangle 21 = .ok (.iconst 1, 1) := by decide +kernel
theorem dX7_triangle_22 : decode cX7_triangle 22 = .ok (.iadd, 1) := by decide +kernel
theorem dX7_triangle_23 : decode cX7_triangle 23 = .ok (.istore_n 2, 1) := by decide +kernel
theorem dX7_triangle_24 : decode cX7_triangle 24 = .ok (.iload_n 2, 1) := by decide +kernel
theorem dX7_triangle_25 : decode cX7_triangle 25 = .ok (.aload_n 0, 1) := by decide +kernel
theorem dX7_triangle_26 : decode cX7_triangle 26 = .ok (.getfield 20, 3) := by decide +kernel
theorem dX7_triangle_29 : decode cX7_triangle 29 = .ok (.getfield 215, 3) := by decide +kernel
theorem dX7_triangle_32 : decode cX7_triangle 32 = .ok (.if_icmp .ge 60, 3) := by decide +kernel
theorem dX7_triangle_35 : decode cX7_triangle 35 = .ok (.iload_n 1, 1) := by decide +kernel
theorem dX7_triangle_36 : decode cX7_triangle 36 = .ok (.iconst 1, 1) := by decide +kernel
theorem dX7_triangle_37 : decode cX7_triangle 37 = .ok (.iadd, 1) := by decide +kernel
theorem dX7_triangle_38 : decode cX7_triangle 38 = .ok (.istore_n 3, 1) := by decide +kernel
theorem dX7_triangle_39 : decode cX7_triangle 39 = .ok (.iload_n 3, 1) := by decide +kernel
theorem dX7_triangle_40 : decode cX7_triangle 40 = .ok (.aload_n 0, 1) := by decide +kernel
theorem dX7_triangle_41 : decode cX7_triangle 41 = .ok (.getfield 20, 3) := by decide +kernel
theorem dX7_triangle_44 : decode cX7_triangle 44 = .ok (.getfield 215, 3) := by decide +kernel
theorem dX7_triangle_47 : decode cX7_triangle 47 = .ok (.if_icmp .ge 39, 3) := by decide +kernel
theorem dX7_triangle_50 : decode cX7_triangle 50 = .ok (.iload_n 2, 1) := by decide +kernel
theorem dX7_triangle_51 : decode cX7_triangle 51 = .ok (.iload_n 3, 1) := by decide +kernel
theorem dX7_triangle_52 : decode cX7_triangle 52 = .ok (.if_icmp .eq 28, 3) := by decide +kernel
theorem dX7_triangle_55 : decode cX7_triangle 55 = .ok (.aload_n 0, 1) := by decide +kernel
theorem dX7_triangle_56 : decode cX7_triangle 56 = .ok (.getfield 45, 3) := by decide +kernel
theorem dX7_triangle_59 : decode cX7_triangle 59 = .ok (.iload_n 1, 1) := by decide +kernel
theorem dX7_triangle_60 : decode cX7_triangle 60 = .ok (.iload_n 2, 1) := by decide +kernel
theorem dX7_triangle_61 : decode cX7_triangle 61 = .ok (.iload_n 3, 1) := by decide +kernel
theorem dX7_triangle_62 : decode cX7_triangle 62 = .ok (.invokevirtual 234, 3) := by decide +kernel
theorem dX7_triangle_65 : decode cX7_triangle 65 = .ok (.ifCond .eq 15, 3) := by decide +kernel
theorem dX7_triangle_68 : decode cX7_triangle 68 = .ok (.bipush 100, 2) := by decide +kernel
theorem dX7_triangle_70 : decode cX7_triangle 70 = .ok (.iload_n 1, 1) := by decide +kernel
theorem dX7_triangle_71 : decode cX7_triangle 71 = .ok (.imul, 1) := by decide +kernel
theorem dX7_triangle_72 : decode cX7_triangle 72 = .ok (.bipush 10, 2) := by decide +kernel
theorem dX7_triangle_74 : decode cX7_triangle 74 = .ok (.iload_n 2, 1) := by decide +kernel
theorem dX7_triangle_75 : decode cX7_triangle 75 = .ok (.imul, 1) := by decide +kernel
theorem dX7_triangle_76 : decode cX7_triangle 76 = .ok (.iadd, 1) := by decide +kernel
theorem dX7_triangle_77 : decode cX7_triangle 77 = .ok (.iload_n 3, 1) := by decide +kernel
theorem dX7_triangle_78 : decode cX7_triangle 78 = .ok (.iadd, 1) := by decide +kernel
theorem dX7_triangle_79 : decode cX7_triangle 79 = .ok (.ireturn, 1) := by decide +kernel
theorem dX7_triangle_80 : decode cX7_triangle 80 = .ok (.iinc 3 1, 3) := by decide +kernel
theorem dX7_triangle_83 : decode cX7_triangle 83 = .ok (.goto (-44), 3) := by decide +kernel
theorem dX7_triangle_86 : decode cX7_triangle 86 = .ok (.iinc 2 1, 3) := by decide +kernel
theorem dX7_triangle_89 : decode cX7_triangle 89 = .ok (.goto (-65), 3) := by decide +kernel
theorem dX7_triangle_92 : decode cX7_triangle 92 = .ok (.iinc 1 1, 3) := by decide +kernel
theorem dX7_triangle_95 : decode cX7_triangle 95 = .ok (.goto (-86), 3) := by decide +kernel
theorem dX7_triangle_98 : decode cX7_triangle 98 = .ok (.iconst (-1), 1) := by decide +kernel
theorem dX7_triangle_99 : decode cX7_triangle 99 = .ok (.ireturn, 1) := by decide +kernel
def f_X7_triangle_80 (kb_9 : Int32 → zS → Option (Int32 × zS)) (kb_24 : Int32 → Int32 → zS → Option (Int32 × zS)) (kb_39 : Int32 → Int32 → Int32 → zS → Option (Int32 × zS)) (v1 : Int32) (v2 : Int32) (v3 : Int32) (s : zS) : Option (Int32 × zS) :=
  zb (v3 + (1 : Int32)) fun x1 =>
  kb_39 v1 v2 x1 s
set_option maxRecDepth 20000 in
theorem b_X7_triangle_80 {X : zX} {kb_9 : Int32 → zS → Option (Int32 × zS)} {kb_24 : Int32 → Int32 → zS → Option (Int32 × zS)} {kb_39 : Int32 → Int32 → Int32 → zS → Option (Int32 × zS)} (hX : zx_ok X cX7_triangle RX7 4) (hT : zx_rt X (some .int) (zR 6 147)) (hk_9 : ∀ (v1 : Int32) (s : zS), zV X (zq X zrI) 4 9 [(0, .ref (zx_ad X 0)), (1, .int v1)] [] s (kb_9 v1 s)) (hk_24 : ∀ (v1 : Int32) (v2 : Int32) (s : zS), zV X (zq X zrI) 4 24 [(0, .ref (zx_ad X 0)), (1, .int v1), (2, .int v2)] [] s (kb_24 v1 v2 s)) (hk_39 : ∀ (v1 : Int32) (v2 : Int32) (v3 : Int32) (s : zS), zV X (zq X zrI) 4 39 [(0, .ref (zx_ad X 0)), (1, .int v1), (2, .int v2), (3, .int v3)] [] s (kb_39 v1 v2 v3 s)) : ∀ (v1 : Int32) (v2 : Int32) (v3 : Int32) (s : zS), zV X (zq X zrI) 4 80 [(0, .ref (zx_ad X 0)), (1, .int v1), (2, .int v2), (3, .int v3)] [] s (f_X7_triangle_80 kb_9 kb_24 kb_39 v1 v2 v3 s) := by
  intro v1 v2 v3 s
  unfold f_X7_triangle_80
  refine zv_iincB (lw := fun x1 => [(3, .int x1), (0, .ref (zx_ad X 0)), (1, .int v1), (2, .int v2)]) hX dX7_triangle_80 3 rfl zi_i_1 (by decide) (fun _ => rfl) (fun x1 => ?_)
  refine zv_goto (tgt := 39) hX dX7_triangle_83 rfl ?_
  exact zv_sub [1, 2, 3, 0] rfl (hk_39 v1 v2 x1 s)
def f_X7_triangle_39 (kb_9 : Int32 → zS → Option (Int32 × zS)) (kb_24 : Int32 → Int32 → zS → Option (Int32 × zS)) : Nat → Int32 → Int32 → Int32 → zS → Option (Int32 × zS)
  | 0, _, _, _, _ => none
  | n + 1, v1, v2, v3, s =>
    if (s.1 3 0) ≤ v3 then
    (zb (v2 + (1 : Int32)) fun x2 =>
    kb_24 v1 x2 s)
    else
    if v2 = v3 then
    (f_X7_triangle_80 kb_9 kb_24 (f_X7_triangle_39 kb_9 kb_24 n) v1 v2 v3 s)
    else
    zbd (f_X0_isTriangle v1 v2 v3 s) fun r3 s4 =>
    if r3 = 0 then
    (f_X7_triangle_80 kb_9 kb_24 (f_X7_triangle_39 kb_9 kb_24 n) v1 v2 v3 s4)
    else
    some ((((nI 100) * v1) + ((nI 10) * v2)) + v3, s4)
set_option maxRecDepth 20000 in
theorem b_X7_triangle_39 {X : zX} {kb_9 : Int32 → zS → Option (Int32 × zS)} {kb_24 : Int32 → Int32 → zS → Option (Int32 × zS)} (hX : zx_ok X cX7_triangle RX7 4) (hT : zx_rt X (some .int) (zR 6 147)) (hk_9 : ∀ (v1 : Int32) (s : zS), zV X (zq X zrI) 4 9 [(0, .ref (zx_ad X 0)), (1, .int v1)] [] s (kb_9 v1 s)) (hk_24 : ∀ (v1 : Int32) (v2 : Int32) (s : zS), zV X (zq X zrI) 4 24 [(0, .ref (zx_ad X 0)), (1, .int v1), (2, .int v2)] [] s (kb_24 v1 v2 s)) : ∀ (n : Nat) (v1 : Int32) (v2 : Int32) (v3 : Int32) (s : zS), zV X (zq X zrI) 4 39 [(0, .ref (zx_ad X 0)), (1, .int v1), (2, .int v2), (3, .int v3)] [] s (f_X7_triangle_39 kb_9 kb_24 n v1 v2 v3 s) := by
  intro n
  induction n with
  | zero => intro v1 v2 v3 s; exact zv_none
  | succ n ih =>
    intro v1 v2 v3 s
    rw [f_X7_triangle_39]
    refine zv_iload_n hX dX7_triangle_39 3 rfl ?_
    refine zv_aload_n hX dX7_triangle_40 0 rfl ?_
    refine zv_geta hX wf_X7_20 wc_7 zd_0 zj_0_2 c9_7 zr_0_2 (by decide) dX7_triangle_41 ?_
    refine zv_geti hX wf_X7_215 wc_5 zd_3 zj_3_0 c9_5 zr_3_0 dX7_triangle_44 ?_
    refine zv_icmp_ge (tgt := 86) hX dX7_triangle_47 rfl ?_ ?_
    · refine zv_iincB (lw := fun x2 => [(2, .int x2), (0, .ref (zx_ad X 0)), (1, .int v1), (3, .int v3)]) hX dX7_triangle_86 2 rfl zi_i_1 (by decide) (fun _ => rfl) (fun x2 => ?_)
      refine zv_goto (tgt := 24) hX dX7_triangle_89 rfl ?_
      exact zv_sub [1, 2, 0] rfl (hk_24 v1 x2 s)
    · refine zv_iload_n hX dX7_triangle_50 2 rfl ?_
      refine zv_iload_n hX dX7_triangle_51 3 rfl ?_
      refine zv_icmp_eq (tgt := 80) hX dX7_triangle_52 rfl ?_ ?_
      · exact b_X7_triangle_80 hX hT hk_9 hk_24 ih v1 v2 v3 s
      · refine zv_aload_n hX dX7_triangle_55 0 rfl ?_
        refine zv_geta hX wf_X7_45 wc_7 zd_0 zj_0_5 c9_7 zr_0_5 (by decide) dX7_triangle_56 ?_
        refine zv_iload_n hX dX7_triangle_59 1 rfl ?_
        refine zv_iload_n hX dX7_triangle_60 2 rfl ?_
        refine zv_iload_n hX dX7_triangle_61 3 rfl ?_
        refine zv_cVI [.int v1, .int v2, .int v3] (rest := []) hX hT.2.2.2.2 (c_X0_isTriangle (zx_Y X) v1 v2 v3 s) wv_X0_isTriangle c9_0 zd_60 wm_X7_234 rfl (Nat.le_of_ble_eq_true rfl) (Nat.le_of_ble_eq_true rfl) rfl (Nat.le_of_ble_eq_true rfl) dX7_triangle_62 (fun r3 s4 => ?_)
        refine zv_if_eq (tgt := 80) hX dX7_triangle_65 rfl ?_ ?_
        · exact b_X7_triangle_80 hX hT hk_9 hk_24 ih v1 v2 v3 s4
        · refine zv_bipush (v := (nI 100)) hX dX7_triangle_68 zi_b_100 ?_
          refine zv_iload_n hX dX7_triangle_70 1 rfl ?_
          refine zv_imul hX dX7_triangle_71 ?_
          refine zv_bipush (v := (nI 10)) hX dX7_triangle_72 zi_b_10 ?_
          refine zv_iload_n hX dX7_triangle_74 2 rfl ?_
          refine zv_imul hX dX7_triangle_75 ?_
          refine zv_iadd hX dX7_triangle_76 ?_
          refine zv_iload_n hX dX7_triangle_77 3 rfl ?_
          refine zv_iadd hX dX7_triangle_78 ?_
          exact zv_ireti hX hT dX7_triangle_79
def f_X7_triangle_24 (kb_9 : Int32 → zS → Option (Int32 × zS)) : Nat → Int32 → Int32 → zS → Option (Int32 × zS)
  | 0, _, _, _ => none
  | n + 1, v1, v2, s =>
    if (s.1 3 0) ≤ v2 then
    (zb (v1 + (1 : Int32)) fun x5 =>
    kb_9 x5 s)
    else
    zb (v1 + (1 : Int32)) fun x6 =>
    f_X7_triangle_39 kb_9 (f_X7_triangle_24 kb_9 n) zFU v1 v2 x6 s
set_option maxRecDepth 20000 in
theorem b_X7_triangle_24 {X : zX} {kb_9 : Int32 → zS → Option (Int32 × zS)} (hX : zx_ok X cX7_triangle RX7 4) (hT : zx_rt X (some .int) (zR 6 147)) (hk_9 : ∀ (v1 : Int32) (s : zS), zV X (zq X zrI) 4 9 [(0, .ref (zx_ad X 0)), (1, .int v1)] [] s (kb_9 v1 s)) : ∀ (n : Nat) (v1 : Int32) (v2 : Int32) (s : zS), zV X (zq X zrI) 4 24 [(0, .ref (zx_ad X 0)), (1, .int v1), (2, .int v2)] [] s (f_X7_triangle_24 kb_9 n v1 v2 s) := by
  intro n
  induction n with
  | zero => intro v1 v2 s; exact zv_none
  | succ n ih =>
    intro v1 v2 s
    rw [f_X7_triangle_24]
    refine zv_iload_n hX dX7_triangle_24 2 rfl ?_
    refine zv_aload_n hX dX7_triangle_25 0 rfl ?_
    refine zv_geta hX wf_X7_20 wc_7 zd_0 zj_0_2 c9_7 zr_0_2 (by decide) dX7_triangle_26 ?_
    refine zv_geti hX wf_X7_215 wc_5 zd_3 zj_3_0 c9_5 zr_3_0 dX7_triangle_29 ?_
    refine zv_icmp_ge (tgt := 92) hX dX7_triangle_32 rfl ?_ ?_
    · refine zv_iincB (lw := fun x5 => [(1, .int x5), (0, .ref (zx_ad X 0)), (2, .int v2)]) hX dX7_triangle_92 1 rfl zi_i_1 (by decide) (fun _ => rfl) (fun x5 => ?_)
      refine zv_goto (tgt := 9) hX dX7_triangle_95 rfl ?_
      exact zv_sub [1, 0] rfl (hk_9 x5 s)
    · refine zv_iload_n hX dX7_triangle_35 1 rfl ?_
      refine zv_iconst (v := (1 : Int32)) hX dX7_triangle_36 zi_i_1 ?_
      refine zv_iadd hX dX7_triangle_37 ?_
      refine zv_istB_n (lw := fun x6 => [(3, .int x6), (0, .ref (zx_ad X 0)), (1, .int v1), (2, .int v2)]) hX dX7_triangle_38 (by decide) (fun _ => rfl) (fun x6 => ?_)
      exact zv_sub [1, 2, 3, 0] rfl (b_X7_triangle_39 hX hT hk_9 ih zFU v1 v2 x6 s)
def f_X7_triangle_9 : Nat → Int32 → zS → Option (Int32 × zS)
  | 0, _, _ => none
  | n + 1, v1, s =>
    if (s.1 3 0) ≤ v1 then
    (some ((-1 : Int32), s))
    else
    zb (v1 + (1 : Int32)) fun x7 =>
    f_X7_triangle_24 (f_X7_triangle_9 n) zFU v1 x7 s
set_option maxRecDepth 20000 in
theorem b_X7_triangle_9 {X : zX} (hX : zx_ok X cX7_triangle RX7 4) (hT : zx_rt X (some .int) (zR 6 147)) : ∀ (n : Nat) (v1 : Int32) (s : zS), zV X (zq X zrI) 4 9 [(0, .ref (zx_ad X 0)), (1, .int v1)] [] s (f_X7_triangle_9 n v1 s) := by
  intro n
  induction n with
  | zero => intro v1 s; exact zv_none
  | succ n ih =>
    intro v1 s
    rw [f_X7_triangle_9]
    refine zv_iload_n hX dX7_triangle_9 1 rfl ?_
    refine zv_aload_n hX dX7_triangle_10 0 rfl ?_
    refine zv_geta hX wf_X7_20 wc_7 zd_0 zj_0_2 c9_7 zr_0_2 (by decide) dX7_triangle_11 ?_
    refine zv_geti hX wf_X7_215 wc_5 zd_3 zj_3_0 c9_5 zr_3_0 dX7_triangle_14 ?_
    refine zv_icmp_ge (tgt := 98) hX dX7_triangle_17 rfl ?_ ?_
    · refine zv_iconst (v := (-1 : Int32)) hX dX7_triangle_98 zi_i_m1 ?_
      exact zv_ireti hX hT dX7_triangle_99
    · refine zv_iload_n hX dX7_triangle_20 1 rfl ?_
      refine zv_iconst (v := (1 : Int32)) hX dX7_triangle_21 zi_i_1 ?_
      refine zv_iadd hX dX7_triangle_22 ?_
      refine zv_istB_n (lw := fun x7 => [(2, .int x7), (0, .ref (zx_ad X 0)), (1, .int v1)]) hX dX7_triangle_23 (by decide) (fun _ => rfl) (fun x7 => ?_)
      exact zv_sub [1, 2, 0] rfl (b_X7_triangle_24 hX hT ih zFU v1 x7 s)
def f_X7_triangle  (s : zS) : Option (Int32 × zS) :=
  zbd (f_X0_learnMatches s) fun _ s8 =>
  f_X7_triangle_9 zFU (0 : Int32) s8
set_option maxRecDepth 20000 in
theorem c_X7_triangle (Y : zG)  (s : zS) : zM Y yX7_triangle cX7_triangle 4 (some .int) (zR 6 147) [.ref (zy_a Y 0)] s zrI (f_X7_triangle  s) := by
  refine zm_start (by decide +kernel) (Nat.le_of_ble_eq_true rfl) ?_
  intro X hY hT hX
  subst hY
  have hX : zx_ok X cX7_triangle RX7 4 := hX
  show zV X (zq X zrI) 4 0 [(0, .ref (zx_ad X 0))] [] s _
  unfold f_X7_triangle
  refine zv_aload_n hX dX7_triangle_0 0 rfl ?_
  refine zv_geta hX wf_X7_45 wc_7 zd_0 zj_0_5 c9_7 zr_0_5 (by decide) dX7_triangle_1 ?_
  refine zv_cVV [] (rest := []) hX hT.2.2.2.2 (c_X0_learnMatches (zx_Y X) s) wv_X0_learnMatches c9_0 zd_60 wm_X7_205 rfl (Nat.le_of_ble_eq_true rfl) (Nat.le_of_ble_eq_true rfl) rfl (Nat.le_of_ble_eq_true rfl) dX7_triangle_4 (fun _ s8 => ?_)
  refine zv_iconst (v := (0 : Int32)) hX dX7_triangle_7 zi_i_0 ?_
  refine zv_istore_n (lv' := [(1, .int (0 : Int32)), (0, .ref (zx_ad X 0))]) hX dX7_triangle_8 (by decide) rfl ?_
  exact zv_sub [1, 0] rfl (b_X7_triangle_9 hX hT zFU (0 : Int32) s8)
theorem dX7_undo_0 : decode cX7_undo 0 = .ok (.iload_n 1, 1) := by decide +kernel
theorem dX7_undo_1 : decode cX7_undo 1 = .ok (.iconst 1, 1) := by decide +kernel
theorem dX7_undo_2 : decode cX7_undo 2 = .ok (.if_icmp .lt 14, 3) := by decide +kernel
theorem dX7_undo_5 : decode cX7_undo 5 = .ok (.iload_n 1, 1) := by decide +kernel
theorem dX7_undo_6 : decode cX7_undo 6 = .ok (.aload_n 0, 1) := by decide +kernel
theorem dX7_undo_7 : decode cX7_undo 7 = .ok (.getfield 68, 3) := by decide +kernel
theorem dX7_undo_10 : decode cX7_undo 10 = .ok (.getfield 170, 3) := by decide +kernel
theorem dX7_undo_13 : decode cX7_undo 13 = .ok (.if_icmp .le 6, 3) := by decide +kernel
theorem dX7_undo_16 : decode cX7_undo 16 = .ok (.bipush (-3), 2) := by decide +kernel
theorem dX7_undo_18 : decode cX7_undo 18 = .ok (.ireturn, 1) := by decide +kernel
theorem dX7_undo_19 : decode cX7_undo 19 = .ok (.aload_n 0, 1) := by decide +kernel
theorem dX7_undo_20 : decode cX7_undo 20 = .ok (.getfield 68, 3) := by decide +kernel
theorem dX7_undo_23 : decode cX7_undo 23 = .ok (.iload_n 1, 1) := by decide +kernel
theorem dX7_undo_24 : decode cX7_undo 24 = .ok (.invokevirtual 173, 3) := by decide +kernel
theorem dX7_undo_27 : decode cX7_undo 27 = .ok (.aload_n 0, 1) := by decide +kernel
theorem dX7_undo_28 : decode cX7_undo 28 = .ok (.getfield 68, 3) := by decide +kernel
theorem dX7_undo_31 : decode cX7_undo 31 = .ok (.getfield 170, 3) := by decide +kernel
theorem dX7_undo_34 : decode cX7_undo 34 = .ok (.ireturn, 1) := by decide +kernel
def f_X7_undo_16  (s : zS) : Option (Int32 × zS) :=
  some ((-3 : Int32), s)
set_option maxRecDepth 20000 in
theorem b_X7_undo_16 {X : zX} (hX : zx_ok X cX7_undo RX7 2) (hT : zx_rt X (some .int) (zR 3 101)) : ∀  (s : zS), zV X (zq X zrI) 2 16 [] [] s (f_X7_undo_16  s) := by
  intro  s
  unfold f_X7_undo_16
  refine zv_bipush (v := (-3 : Int32)) hX dX7_undo_16 zi_b_m3 ?_
  exact zv_ireti hX hT dX7_undo_18
def f_X7_undo (v1 : Int32) (s : zS) : Option (Int32 × zS) :=
  if v1 < (1 : Int32) then
  (f_X7_undo_16 s)
  else
  if v1 ≤ (s.1 73 3) then
  (zbd (f_X2_goBack v1 s) fun _ s1 =>
  some (s1.1 73 3, s1))
  else
  f_X7_undo_16 s
set_option maxRecDepth 20000 in
theorem c_X7_undo (Y : zG) (v1 : Int32) (s : zS) : zM Y yX7_undo cX7_undo 2 (some .int) (zR 3 101) [.ref (zy_a Y 0), .int v1] s zrI (f_X7_undo v1 s) := by
  refine zm_start (by decide +kernel) (Nat.le_of_ble_eq_true rfl) ?_
  intro X hY hT hX
  subst hY
  have hX : zx_ok X cX7_undo RX7 2 := hX
  show zV X (zq X zrI) 2 0 [(0, .ref (zx_ad X 0)), (1, .int v1)] [] s _
  unfold f_X7_undo
  refine zv_iload_n hX dX7_undo_0 1 rfl ?_
  refine zv_iconst (v := (1 : Int32)) hX dX7_undo_1 zi_i_1 ?_
  refine zv_icmp_lt (tgt := 16) hX dX7_undo_2 rfl ?_ ?_
  · exact zv_sub [] rfl (b_X7_undo_16 hX hT  s)
  · refine zv_iload_n hX dX7_undo_5 1 rfl ?_
    refine zv_aload_n hX dX7_undo_6 0 rfl ?_
    refine zv_geta hX wf_X7_68 wc_7 zd_0 zj_0_7 c9_7 zr_0_7 (by decide) dX7_undo_7 ?_
    refine zv_geti hX wf_X7_170 wc_2 zd_73 zj_73_3 c9_2 zr_73_3 dX7_undo_10 ?_
    refine zv_icmp_le (tgt := 19) hX dX7_undo_13 rfl ?_ ?_
    · refine zv_aload_n hX dX7_undo_19 0 rfl ?_
      refine zv_geta hX wf_X7_68 wc_7 zd_0 zj_0_7 c9_7 zr_0_7 (by decide) dX7_undo_20 ?_
      refine zv_iload_n hX dX7_undo_23 1 rfl ?_
      refine zv_cVV [.int v1] (rest := []) hX hT.2.2.2.2 (c_X2_goBack (zx_Y X) v1 s) wv_X2_goBack c9_2 zd_73 wm_X7_173 rfl (Nat.le_of_ble_eq_true rfl) (Nat.le_of_ble_eq_true rfl) rfl (Nat.le_of_ble_eq_true rfl) dX7_undo_24 (fun _ s1 => ?_)
      refine zv_aload_n hX dX7_undo_27 0 rfl ?_
      refine zv_geta hX wf_X7_68 wc_7 zd_0 zj_0_7 c9_7 zr_0_7 (by decide) dX7_undo_28 ?_
      refine zv_geti hX wf_X7_170 wc_2 zd_73 zj_73_3 c9_2 zr_73_3 dX7_undo_31 ?_
      exact zv_ireti hX hT dX7_undo_34
    · exact zv_sub [] rfl (b_X7_undo_16 hX hT  s)
theorem dX7_wins_0 : decode cX7_wins 0 = .ok (.aload_n 0, 1) := by decide +kernel
theorem dX7_wins_1 : decode cX7_wins 1 = .ok (.getfield 20, 3) := by decide +kernel
theorem dX7_wins_4 : decode cX7_wins 4 = .ok (.iload_n 1, 1) := by decide +kernel
theorem dX7_wins_5 : decode cX7_wins 5 = .ok (.invokevirtual 238, 3) := by decide +kernel
theorem dX7_wins_8 : decode cX7_wins 8 = .ok (.ifCond .ne 6, 3) := by decide +kernel
theorem dX7_wins_11 : decode cX7_wins 11 = .ok (.bipush (-3), 2) := by decide +kernel
theorem dX7_wins_13 : decode cX7_wins 13 = .ok (.ireturn, 1) := by decide +kernel
theorem dX7_wins_14 : decode cX7_wins 14 = .ok (.aload_n 0, 1) := by decide +kernel
theorem dX7_wins_15 : decode cX7_wins 15 = .ok (.getfield 36, 3) := by decide +kernel
theorem dX7_wins_18 : decode cX7_wins 18 = .ok (.iload_n 1, 1) := by decide +kernel
theorem dX7_wins_19 : decode cX7_wins 19 = .ok (.invokevirtual 300, 3) := by decide +kernel
theorem dX7_wins_22 : decode cX7_wins 22 = .ok (.aload_n 0, 1) := by decide +kernel
theorem dX7_wins_23 : decode cX7_wins 23 = .ok (.getfield 36, 3) := by decide +kernel
theorem dX7_wins_26 : decode cX7_wins 26 = .ok (.getfield 303, 3) := by decide +kernel
theorem dX7_wins_29 : decode cX7_wins 29 = .ok (.iload_n 1, 1) := by decide +kernel
theorem dX7_wins_30 : decode cX7_wins 30 = .ok (.iaload, 1) := by decide +kernel
theorem dX7_wins_31 : decode cX7_wins 31 = .ok (.iconst 1, 1) := by decide +kernel
theorem dX7_wins_32 : decode cX7_wins 32 = .ok (.iand, 1) := by decide +kernel
theorem dX7_wins_33 : decode cX7_wins 33 = .ok (.ireturn, 1) := by decide +kernel
def f_X7_wins (v1 : Int32) (s : zS) : Option (Int32 × zS) :=
  zbd (f_X5_hasAll_3 v1 s) fun r1 s2 =>
  if ¬ r1 = 0 then
  (zbd (f_X4_learnTurns v1 s2) fun _ s3 =>
  (zr_i s3 52 v1).bind fun x4 =>
  some (x4 &&& (1 : Int32), s3))
  else
  some ((-3 : Int32), s2)
set_option maxRecDepth 20000 in
theorem c_X7_wins (Y : zG) (v1 : Int32) (s : zS) : zM Y yX7_wins cX7_wins 2 (some .int) (zR 70 1797) [.ref (zy_a Y 0), .int v1] s zrI (f_X7_wins v1 s) := by
  refine zm_start (by decide +kernel) (Nat.le_of_ble_eq_true rfl) ?_
  intro X hY hT hX
  subst hY
  have hX : zx_ok X cX7_wins RX7 2 := hX
  show zV X (zq X zrI) 2 0 [(0, .ref (zx_ad X 0)), (1, .int v1)] [] s _
  unfold f_X7_wins
  refine zv_aload_n hX dX7_wins_0 0 rfl ?_
  refine zv_geta hX wf_X7_20 wc_7 zd_0 zj_0_2 c9_7 zr_0_2 (by decide) dX7_wins_1 ?_
  refine zv_iload_n hX dX7_wins_4 1 rfl ?_
  refine zv_cVI [.int v1] (rest := []) hX hT.2.2.2.2 (c_X5_hasAll_3 (zx_Y X) v1 s) wv_X5_hasAll c9_5 zd_3 wm_X7_238 rfl (Nat.le_of_ble_eq_true rfl) (Nat.le_of_ble_eq_true rfl) rfl (Nat.le_of_ble_eq_true rfl) dX7_wins_5 (fun r1 s2 => ?_)
  refine zv_if_ne (tgt := 14) hX dX7_wins_8 rfl ?_ ?_
  · refine zv_aload_n hX dX7_wins_14 0 rfl ?_
    refine zv_geta hX wf_X7_36 wc_7 zd_0 zj_0_4 c9_7 zr_0_4 (by decide) dX7_wins_15 ?_
    refine zv_iload_n hX dX7_wins_18 1 rfl ?_
    refine zv_cVV [.int v1] (rest := []) hX hT.2.2.2.2 (c_X4_learnTurns (zx_Y X) v1 s2) wv_X4_learnTurns c9_4 zd_42 wm_X7_300 rfl (Nat.le_of_ble_eq_true rfl) (Nat.le_of_ble_eq_true rfl) rfl (Nat.le_of_ble_eq_true rfl) dX7_wins_19 (fun _ s3 => ?_)
    refine zv_aload_n hX dX7_wins_22 0 rfl ?_
    refine zv_geta hX wf_X7_36 wc_7 zd_0 zj_0_4 c9_7 zr_0_4 (by decide) dX7_wins_23 ?_
    refine zv_geta hX wf_X7_303 wc_4 zd_42 zj_42_10 c9_4 zr_42_10 (by decide) dX7_wins_26 ?_
    refine zv_iload_n hX dX7_wins_29 1 rfl ?_
    refine zv_iald hX dX7_wins_30 (fun x4 => ?_)
    refine zv_iconst (v := (1 : Int32)) hX dX7_wins_31 zi_i_1 ?_
    refine zv_iand hX dX7_wins_32 ?_
    exact zv_ireti hX hT dX7_wins_33
  · refine zv_bipush (v := (-3 : Int32)) hX dX7_wins_11 zi_b_m3 ?_
    exact zv_ireti hX hT dX7_wins_13
theorem dX7_write_0 : decode cX7_write 0 = .ok (.aload_n 0, 1) := by decide +kernel
theorem dX7_write_1 : decode cX7_write 1 = .ok (.getfield 52, 3) := by decide +kernel
theorem dX7_write_4 : decode cX7_write 4 = .ok (.iload_n 1, 1) := by decide +kernel
theorem dX7_write_5 : decode cX7_write 5 = .ok (.invokevirtual 177, 3) := by decide +kernel
theorem dX7_write_8 : decode cX7_write 8 = .ok (.ifCond .ne 7, 3) := by decide +kernel
theorem dX7_write_11 : decode cX7_write 11 = .ok (.ldc2_w 316, 3) := by decide +kernel
theorem dX7_write_14 : decode cX7_write 14 = .ok (.lreturn, 1) := by decide +kernel
theorem dX7_write_15 : decode cX7_write 15 = .ok (.aload_n 0, 1) := by decide +kernel
theorem dX7_write_16 : decode cX7_write 16 = .ok (.getfield 52, 3) := by decide +kernel
theorem dX7_write_19 : decode cX7_write 19 = .ok (.iload_n 1, 1) := by decide +kernel
theorem dX7_write_20 : decode cX7_write 20 = .ok (.invokevirtual 180, 3) := by decide +kernel
theorem dX7_write_23 : decode cX7_write 23 = .ok (.ifCond .eq 7, 3) := by decide +kernel
theorem dX7_write_26 : decode cX7_write 26 = .ok (.ldc2_w 318, 3) := by decide +kernel
theorem dX7_write_29 : decode cX7_write 29 = .ok (.lreturn, 1) := by decide +kernel
theorem dX7_write_30 : decode cX7_write 30 = .ok (.iload_n 2, 1) := by decide +kernel
theorem dX7_write_31 : decode cX7_write 31 = .ok (.ifCond .lt 15, 3) := by decide +kernel
theorem dX7_write_34 : decode cX7_write 34 = .ok (.iload_n 2, 1) := by decide +kernel
theorem dX7_write_35 : decode cX7_write 35 = .ok (.aload_n 0, 1) := by decide +kernel
theorem dX7_write_36 : decode cX7_write 36 = .ok (.getfield 52, 3) := by decide +kernel
theorem dX7_write_39 : decode cX7_write 39 = .ok (.iload_n 1, 1) := by decide +kernel
theorem dX7_write_40 : decode cX7_write 40 = .ok (.invokevirtual 259, 3) := by decide +kernel
theorem dX7_write_43 : decode cX7_write 43 = .ok (.if_icmp .lt 7, 3) := by decide +kernel
theorem dX7_write_46 : decode cX7_write 46 = .ok (.ldc2_w 320, 3) := by decide +kernel
theorem dX7_write_49 : decode cX7_write 49 = .ok (.lreturn, 1) := by decide +kernel
theorem dX7_write_50 : decode cX7_write 50 = .ok (.aload_n 0, 1) := by decide +kernel
theorem dX7_write_51 : decode cX7_write 51 = .ok (.getfield 52, 3) := by decide +kernel
theorem dX7_write_54 : decode cX7_write 54 = .ok (.iload_n 1, 1) := by decide +kernel
theorem dX7_write_55 : decode cX7_write 55 = .ok (.iload_n 2, 1) := by decide +kernel
theorem dX7_write_56 : decode cX7_write 56 = .ok (.lload_n 3, 1) := by decide +kernel
theorem dX7_write_57 : decode cX7_write 57 = .ok (.invokevirtual 322, 3) := by decide +kernel
theorem dX7_write_60 : decode cX7_write 60 = .ok (.lreturn, 1) := by decide +kernel
def f_X7_write_46  (s : zS) : Option (Int64 × zS) :=
  some ((-7 : Int64), s)
set_option maxRecDepth 20000 in
theorem b_X7_write_46 {X : zX} (hX : zx_ok X cX7_write RX7 5) (hT : zx_rt X (some .long) (zR 4 89)) : ∀  (s : zS), zV X (zq X zrJ) 5 46 [] [] s (f_X7_write_46  s) := by
  intro  s
  unfold f_X7_write_46
  refine zv_ldc2 hX wn_X7_320 dX7_write_46 ?_
  exact zv_lret hX hT dX7_write_49
def f_X7_write (v1 : Int32) (v2 : Int32) (v3 : Int64) (s : zS) : Option (Int64 × zS) :=
  zbd (f_X6_isOne v1 s) fun r1 s2 =>
  if ¬ r1 = 0 then
  (zbd (f_X6_isMissing v1 s2) fun r3 s4 =>
  if r3 = 0 then
  (if v2 < 0 then
  (f_X7_write_46 s4)
  else
  zbd (f_X6_sizeOf v1 s4) fun r5 s6 =>
  if v2 < r5 then
  (zbd (f_X6_put v1 v2 v3 s6) fun r7 s8 =>
  some (r7, s8))
  else
  f_X7_write_46 s6)
  else
  some ((-6 : Int64), s4))
  else
  some ((-2 : Int64), s2)
set_option maxRecDepth 20000 in
theorem c_X7_write (Y : zG) (v1 : Int32) (v2 : Int32) (v3 : Int64) (s : zS) : zM Y yX7_write cX7_write 5 (some .long) (zR 4 89) [.ref (zy_a Y 0), .int v1, .int v2, .long v3] s zrJ (f_X7_write v1 v2 v3 s) := by
  refine zm_start (by decide +kernel) (Nat.le_of_ble_eq_true rfl) ?_
  intro X hY hT hX
  subst hY
  have hX : zx_ok X cX7_write RX7 5 := hX
  show zV X (zq X zrJ) 5 0 [(0, .ref (zx_ad X 0)), (1, .int v1), (2, .int v2), (3, .long v3)] [] s _
  unfold f_X7_write
  refine zv_aload_n hX dX7_write_0 0 rfl ?_
  refine zv_geta hX wf_X7_52 wc_7 zd_0 zj_0_8 c9_7 zr_0_8 (by decide) dX7_write_1 ?_
  refine zv_iload_n hX dX7_write_4 1 rfl ?_
  refine zv_cVI [.int v1] (rest := []) hX hT.2.2.2.2 (c_X6_isOne (zx_Y X) v1 s) wv_X6_isOne c9_6 zd_68 wm_X7_177 rfl (Nat.le_of_ble_eq_true rfl) (Nat.le_of_ble_eq_true rfl) rfl (Nat.le_of_ble_eq_true rfl) dX7_write_5 (fun r1 s2 => ?_)
  refine zv_if_ne (tgt := 15) hX dX7_write_8 rfl ?_ ?_
  · refine zv_aload_n hX dX7_write_15 0 rfl ?_
    refine zv_geta hX wf_X7_52 wc_7 zd_0 zj_0_8 c9_7 zr_0_8 (by decide) dX7_write_16 ?_
    refine zv_iload_n hX dX7_write_19 1 rfl ?_
    refine zv_cVI [.int v1] (rest := []) hX hT.2.2.2.2 (c_X6_isMissing (zx_Y X) v1 s2) wv_X6_isMissing c9_6 zd_68 wm_X7_180 rfl (Nat.le_of_ble_eq_true rfl) (Nat.le_of_ble_eq_true rfl) rfl (Nat.le_of_ble_eq_true rfl) dX7_write_20 (fun r3 s4 => ?_)
    refine zv_if_eq (tgt := 30) hX dX7_write_23 rfl ?_ ?_
    · refine zv_iload_n hX dX7_write_30 2 rfl ?_
      refine zv_if_lt (tgt := 46) hX dX7_write_31 rfl ?_ ?_
      · exact zv_sub [] rfl (b_X7_write_46 hX hT  s4)
      · refine zv_iload_n hX dX7_write_34 2 rfl ?_
        refine zv_aload_n hX dX7_write_35 0 rfl ?_
        refine zv_geta hX wf_X7_52 wc_7 zd_0 zj_0_8 c9_7 zr_0_8 (by decide) dX7_write_36 ?_
        refine zv_iload_n hX dX7_write_39 1 rfl ?_
        refine zv_cVI [.int v1] (rest := [.int v2]) hX hT.2.2.2.2 (c_X6_sizeOf (zx_Y X) v1 s4) wv_X6_sizeOf c9_6 zd_68 wm_X7_259 rfl (Nat.le_of_ble_eq_true rfl) (Nat.le_of_ble_eq_true rfl) rfl (Nat.le_of_ble_eq_true rfl) dX7_write_40 (fun r5 s6 => ?_)
        refine zv_icmp_lt (tgt := 50) hX dX7_write_43 rfl ?_ ?_
        · refine zv_aload_n hX dX7_write_50 0 rfl ?_
          refine zv_geta hX wf_X7_52 wc_7 zd_0 zj_0_8 c9_7 zr_0_8 (by decide) dX7_write_51 ?_
          refine zv_iload_n hX dX7_write_54 1 rfl ?_
          refine zv_iload_n hX dX7_write_55 2 rfl ?_
          refine zv_lload_n hX dX7_write_56 3 rfl ?_
          refine zv_cVJ [.int v1, .int v2, .long v3] (rest := []) hX hT.2.2.2.2 (c_X6_put (zx_Y X) v1 v2 v3 s6) wv_X6_put c9_6 zd_68 wm_X7_322 rfl (Nat.le_of_ble_eq_true rfl) (Nat.le_of_ble_eq_true rfl) rfl (Nat.le_of_ble_eq_true rfl) dX7_write_57 (fun r7 s8 => ?_)
          exact zv_lret hX hT dX7_write_60
        · exact zv_sub [] rfl (b_X7_write_46 hX hT  s6)
    · refine zv_ldc2 hX wn_X7_318 dX7_write_26 ?_
      exact zv_lret hX hT dX7_write_29
  · refine zv_ldc2 hX wn_X7_316 dX7_write_11 ?_
    exact zv_lret hX hT dX7_write_14
theorem dX7_year_0 : decode cX7_year 0 = .ok (.iload_n 2, 1) := by decide +kernel
theorem dX7_year_1 : decode cX7_year 1 = .ok (.iconst 1, 1) := by decide +kernel
theorem dX7_year_2 : decode cX7_year 2 = .ok (.if_icmp .lt 9, 3) := by decide +kernel
theorem dX7_year_5 : decode cX7_year 5 = .ok (.iload_n 2, 1) := by decide +kernel
theorem dX7_year_6 : decode cX7_year 6 = .ok (.bipush 40, 2) := by decide +kernel
theorem dX7_year_8 : decode cX7_year 8 = .ok (.if_icmp .le 6, 3) := by decide +kernel
theorem dX7_year_11 : decode cX7_year 11 = .ok (.bipush (-3), 2) := by decide +kernel
theorem dX7_year_13 : decode cX7_year 13 = .ok (.ireturn, 1) := by decide +kernel
theorem dX7_year_14 : decode cX7_year 14 = .ok (.aload_n 0, 1) := by decide +kernel
theorem dX7_year_15 : decode cX7_year 15 = .ok (.getfield 68, 3) := by decide +kernel
theorem dX7_year_18 : decode cX7_year 18 = .ok (.invokevirtual 149, 3) := by decide +kernel
theorem dX7_year_21 : decode cX7_year 21 = .ok (.aload_n 0, 1) := by decide +kernel
theorem dX7_year_22 : decode cX7_year 22 = .ok (.aload_n 0, 1) := by decide +kernel
theorem dX7_year_23 : decode cX7_year 23 = .ok (.getfield 61, 3) := by decide +kernel
theorem dX7_year_26 : decode cX7_year 26 = .ok (.iload_n 1, 1) := by decide +kernel
theorem dX7_year_27 : decode cX7_year 27 = .ok (.iload_n 2, 1) := by decide +kernel
theorem dX7_year_28 : decode cX7_year 28 = .ok (.invokevirtual 202, 3) := by decide +kernel
theorem dX7_year_31 : decode cX7_year 31 = .ok (.invokevirtual 199, 3) := by decide +kernel
theorem dX7_year_34 : decode cX7_year 34 = .ok (.ireturn, 1) := by decide +kernel
def f_X7_year_11  (s : zS) : Option (Int32 × zS) :=
  some ((-3 : Int32), s)
set_option maxRecDepth 20000 in
theorem b_X7_year_11 {X : zX} (hX : zx_ok X cX7_year RX7 3) (hT : zx_rt X (some .int) (zR 7 172)) : ∀  (s : zS), zV X (zq X zrI) 3 11 [] [] s (f_X7_year_11  s) := by
  intro  s
  unfold f_X7_year_11
  refine zv_bipush (v := (-3 : Int32)) hX dX7_year_11 zi_b_m3 ?_
  exact zv_ireti hX hT dX7_year_13
def f_X7_year (v1 : Int32) (v2 : Int32) (s : zS) : Option (Int32 × zS) :=
  if v2 < (1 : Int32) then
  (f_X7_year_11 s)
  else
  if v2 ≤ (nI 40) then
  (zbd (f_X2_hold s) fun _ s1 =>
  zbd (f_X1_doYear v1 v2 s1) fun r2 s3 =>
  zbd (f_X7_keepIfAny r2 s3) fun r4 s5 =>
  some (r4, s5))
  else
  f_X7_year_11 s
set_option maxRecDepth 20000 in
theorem c_X7_year (Y : zG) (v1 : Int32) (v2 : Int32) (s : zS) : zM Y yX7_year cX7_year 3 (some .int) (zR 7 172) [.ref (zy_a Y 0), .int v1, .int v2] s zrI (f_X7_year v1 v2 s) := by
  refine zm_start (by decide +kernel) (Nat.le_of_ble_eq_true rfl) ?_
  intro X hY hT hX
  subst hY
  have hX : zx_ok X cX7_year RX7 3 := hX
  show zV X (zq X zrI) 3 0 [(0, .ref (zx_ad X 0)), (1, .int v1), (2, .int v2)] [] s _
  unfold f_X7_year
  refine zv_iload_n hX dX7_year_0 2 rfl ?_
  refine zv_iconst (v := (1 : Int32)) hX dX7_year_1 zi_i_1 ?_
  refine zv_icmp_lt (tgt := 11) hX dX7_year_2 rfl ?_ ?_
  · exact zv_sub [] rfl (b_X7_year_11 hX hT  s)
  · refine zv_iload_n hX dX7_year_5 2 rfl ?_
    refine zv_bipush (v := (nI 40)) hX dX7_year_6 zi_b_40 ?_
    refine zv_icmp_le (tgt := 14) hX dX7_year_8 rfl ?_ ?_
    · refine zv_aload_n hX dX7_year_14 0 rfl ?_
      refine zv_geta hX wf_X7_68 wc_7 zd_0 zj_0_7 c9_7 zr_0_7 (by decide) dX7_year_15 ?_
      refine zv_cVV [] (rest := []) hX hT.2.2.2.2 (c_X2_hold (zx_Y X) s) wv_X2_hold c9_2 zd_73 wm_X7_149 rfl (Nat.le_of_ble_eq_true rfl) (Nat.le_of_ble_eq_true rfl) rfl (Nat.le_of_ble_eq_true rfl) dX7_year_18 (fun _ s1 => ?_)
      refine zv_aload_n hX dX7_year_21 0 rfl ?_
      refine zv_aload_n hX dX7_year_22 0 rfl ?_
      refine zv_geta hX wf_X7_61 wc_7 zd_0 zj_0_6 c9_7 zr_0_6 (by decide) dX7_year_23 ?_
      refine zv_iload_n hX dX7_year_26 1 rfl ?_
      refine zv_iload_n hX dX7_year_27 2 rfl ?_
      refine zv_cVI [.int v1, .int v2] (rest := [.ref (zx_ad X 0)]) hX hT.2.2.2.2 (c_X1_doYear (zx_Y X) v1 v2 s1) wv_X1_doYear c9_1 zd_72 wm_X7_202 rfl (Nat.le_of_ble_eq_true rfl) (Nat.le_of_ble_eq_true rfl) rfl (Nat.le_of_ble_eq_true rfl) dX7_year_28 (fun r2 s3 => ?_)
      refine zv_cVI [.int r2] (rest := []) hX hT.2.2.2.2 (c_X7_keepIfAny (zx_Y X) r2 s3) wv_X7_keepIfAny c9_7 zd_0 wm_X7_199 rfl (Nat.le_of_ble_eq_true rfl) (Nat.le_of_ble_eq_true rfl) rfl (Nat.le_of_ble_eq_true rfl) dX7_year_31 (fun r4 s5 => ?_)
      exact zv_ireti hX hT dX7_year_34
    · exact zv_sub [] rfl (b_X7_year_11 hX hT  s)
theorem dX8_areMatch_0 : decode cX8_areMatch 0 = .ok (.aload_n 0, 1) := by decide +kernel
theorem dX8_areMatch_1 : decode cX8_areMatch 1 = .ok (.getfield 54, 3) := by decide +kernel
theorem dX8_areMatch_4 : decode cX8_areMatch 4 = .ok (.bipush 7, 2) := by decide +kernel
theorem dX8_areMatch_6 : decode cX8_areMatch 6 = .ok (.iload_n 1, 1) := by decide +kernel
theorem dX8_areMatch_7 : decode cX8_areMatch 7 = .ok (.imul, 1) := by decide +kernel
theorem dX8_areMatch_8 : decode cX8_areMatch 8 = .ok (.iload_n 2, 1) := by decide +kernel
theorem dX8_areMatch_9 : decode cX8_areMatch 9 = .ok (.iadd, 1) := by decide +kernel
theorem dX8_areMatch_10 : decode cX8_areMatch 10 = .ok (.baload, 1) := by decide +kernel
theorem dX8_areMatch_11 : decode cX8_areMatch 11 = .ok (.ireturn, 1) := by decide +kernel
def f_X8_areMatch (v1 : Int32) (v2 : Int32) (s : zS) : Option (Int32 × zS) :=
  (zr_b s 89 (((nI 7) * v1) + v2)).bind fun x1 =>
  if x1 = 0 ∨ x1 = 1 then some (x1, s) else none
set_option maxRecDepth 20000 in
theorem c_X8_areMatch (Y : zG) (v1 : Int32) (v2 : Int32) (s : zS) : zM Y yX8_areMatch cX8_areMatch 3 (some .boolean) (zR 0 0) [.ref (zy_a Y 76), .int v1, .int v2] s zrI (f_X8_areMatch v1 v2 s) := by
  refine zm_start (by decide +kernel) (Nat.le_of_ble_eq_true rfl) ?_
  intro X hY hT hX
  subst hY
  have hX : zx_ok X cX8_areMatch RX8 3 := hX
  show zV X (zq X zrI) 3 0 [(0, .ref (zx_ad X 76)), (1, .int v1), (2, .int v2)] [] s _
  unfold f_X8_areMatch
  refine zv_aload_n hX dX8_areMatch_0 0 rfl ?_
  refine zv_geta hX wf_X8_54 wc_8 zd_76 zj_76_26 c9_8 zr_76_26 (by decide) dX8_areMatch_1 ?_
  refine zv_bipush (v := (nI 7)) hX dX8_areMatch_4 zi_b_7 ?_
  refine zv_iload_n hX dX8_areMatch_6 1 rfl ?_
  refine zv_imul hX dX8_areMatch_7 ?_
  refine zv_iload_n hX dX8_areMatch_8 2 rfl ?_
  refine zv_iadd hX dX8_areMatch_9 ?_
  refine zv_bald hX dX8_areMatch_10 (fun x1 => ?_)
  exact zv_iretzB hX hT dX8_areMatch_11
