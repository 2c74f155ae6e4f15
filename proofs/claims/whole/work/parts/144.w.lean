theorem dX8_partner_0 : decode cX8_partner 0 = .ok (.aload_n 0, 1) := by decide +kernel
theorem dX8_partner_1 : decode cX8_partner 1 = .ok (.iconst 0, 1) := by decide +kernel
theorem dX8_partner_2 : decode cX8_partner 2 = .ok (.putfield 1, 3) := by decide +kernel
theorem dX8_partner_5 : decode cX8_partner 5 = .ok (.aload_n 0, 1) := by decide +kernel
theorem dX8_partner_6 : decode cX8_partner 6 = .ok (.iload_n 2, 1) := by decide +kernel
theorem dX8_partner_7 : decode cX8_partner 7 = .ok (.i2l, 1) := by decide +kernel
theorem dX8_partner_8 : decode cX8_partner 8 = .ok (.invokevirtual 219, 3) := by decide +kernel
theorem dX8_partner_11 : decode cX8_partner 11 = .ok (.ifCond .ne 6, 3) := by decide +kernel
theorem dX8_partner_14 : decode cX8_partner 14 = .ok (.bipush (-2), 2) := by decide +kernel
theorem dX8_partner_16 : decode cX8_partner 16 = .ok (.ireturn, 1) := by decide +kernel
theorem dX8_partner_17 : decode cX8_partner 17 = .ok (.iload_n 1, 1) := by decide +kernel
theorem dX8_partner_18 : decode cX8_partner 18 = .ok (.ifCond .ge 6, 3) := by decide +kernel
theorem dX8_partner_21 : decode cX8_partner 21 = .ok (.bipush (-3), 2) := by decide +kernel
theorem dX8_partner_23 : decode cX8_partner 23 = .ok (.ireturn, 1) := by decide +kernel
theorem dX8_partner_24 : decode cX8_partner 24 = .ok (.aload_n 0, 1) := by decide +kernel
theorem dX8_partner_25 : decode cX8_partner 25 = .ok (.invokevirtual 403, 3) := by decide +kernel
theorem dX8_partner_28 : decode cX8_partner 28 = .ok (.iload_n 1, 1) := by decide +kernel
theorem dX8_partner_29 : decode cX8_partner 29 = .ok (.aload_n 0, 1) := by decide +kernel
theorem dX8_partner_30 : decode cX8_partner 30 = .ok (.getfield 391, 3) := by decide +kernel
theorem dX8_partner_33 : decode cX8_partner 33 = .ok (.if_icmp .ge 17, 3) := by decide +kernel
theorem dX8_partner_36 : decode cX8_partner 36 = .ok (.aload_n 0, 1) := by decide +kernel
theorem dX8_partner_37 : decode cX8_partner 37 = .ok (.getfield 63, 3) := by decide +kernel
theorem dX8_partner_40 : decode cX8_partner 40 = .ok (.bipush 7, 2) := by decide +kernel
theorem dX8_partner_42 : decode cX8_partner 42 = .ok (.iload_n 1, 1) := by decide +kernel
theorem dX8_partner_43 : decode cX8_partner 43 = .ok (.imul, 1) := by decide +kernel
theorem dX8_partner_44 : decode cX8_partner 44 = .ok (.iload_n 2, 1) := by decide +kernel
theorem dX8_partner_45 : decode cX8_partner 45 = .ok (.iadd, 1) := by decide +kernel
theorem dX8_partner_46 : decode cX8_partner 46 = .ok (.iaload, 1) := by decide +kernel
theorem dX8_partner_47 : decode cX8_partner 47 = .ok (.goto 4, 3) := by decide +kernel
theorem dX8_partner_50 : decode cX8_partner 50 = .ok (.iconst (-1), 1) := by decide +kernel
theorem dX8_partner_51 : decode cX8_partner 51 = .ok (.ireturn, 1) := by decide +kernel
def f_X8_partner_51 (w0 : Int32) (s : zS) : Option (Int32 × zS) :=
  some (w0, s)
set_option maxRecDepth 20000 in
theorem b_X8_partner_51 {X : zX} (hX : zx_ok X cX8_partner RX8 3) (hT : zx_rt X (some .int) (zR 72 1775)) : ∀ (w0 : Int32) (s : zS), zV X (zq X zrI) 3 51 [] [.int w0] s (f_X8_partner_51 w0 s) := by
  intro w0 s
  unfold f_X8_partner_51
  exact zv_ireti hX hT dX8_partner_51
def f_X8_partner (v1 : Int32) (v2 : Int32) (s : zS) : Option (Int32 × zS) :=
  zb (zs_i s 76 0 (0 : Int32)) fun s1 =>
  zbd (f_X8_isPerson (v2.toInt64) s1) fun r2 s3 =>
  if ¬ r2 = 0 then
  (if 0 ≤ v1 then
  (zbd (f_X8_laysHeld s3) fun _ s4 =>
  if (s4.1 76 32) ≤ v1 then
  (f_X8_partner_51 (-1 : Int32) s4)
  else
  (zr_i s4 92 (((nI 7) * v1) + v2)).bind fun x5 =>
  f_X8_partner_51 x5 s4)
  else
  some ((-3 : Int32), s3))
  else
  some ((-2 : Int32), s3)
set_option maxRecDepth 20000 in
theorem c_X8_partner (Y : zG) (v1 : Int32) (v2 : Int32) (s : zS) : zM Y yX8_partner cX8_partner 3 (some .int) (zR 72 1775) [.ref (zy_a Y 76), .int v1, .int v2] s zrI (f_X8_partner v1 v2 s) := by
  refine zm_start (by decide +kernel) (Nat.le_of_ble_eq_true rfl) ?_
  intro X hY hT hX
  subst hY
  have hX : zx_ok X cX8_partner RX8 3 := hX
  show zV X (zq X zrI) 3 0 [(0, .ref (zx_ad X 76)), (1, .int v1), (2, .int v2)] [] s _
  unfold f_X8_partner
  refine zv_aload_n hX dX8_partner_0 0 rfl ?_
  refine zv_iconst (v := (0 : Int32)) hX dX8_partner_1 zi_i_0 ?_
  refine zv_puti hX wf_X8_1 wc_8 wk_8_0 zd_76 zj_76_0 c9_8 zr_76_0 dX8_partner_2 (fun s1 => ?_)
  refine zv_aload_n hX dX8_partner_5 0 rfl ?_
  refine zv_iload_n hX dX8_partner_6 2 rfl ?_
  refine zv_i2l hX dX8_partner_7 ?_
  refine zv_cVI [.long (v2.toInt64)] (rest := []) hX hT.2.2.2.2 (c_X8_isPerson (zx_Y X) (v2.toInt64) s1) wv_X8_isPerson c9_8 zd_76 wm_X8_219 rfl (Nat.le_of_ble_eq_true rfl) (Nat.le_of_ble_eq_true rfl) rfl (Nat.le_of_ble_eq_true rfl) dX8_partner_8 (fun r2 s3 => ?_)
  refine zv_if_ne (tgt := 17) hX dX8_partner_11 rfl ?_ ?_
  · refine zv_iload_n hX dX8_partner_17 1 rfl ?_
    refine zv_if_ge (tgt := 24) hX dX8_partner_18 rfl ?_ ?_
    · refine zv_aload_n hX dX8_partner_24 0 rfl ?_
      refine zv_cVV [] (rest := []) hX hT.2.2.2.2 (c_X8_laysHeld (zx_Y X) s3) wv_X8_laysHeld c9_8 zd_76 wm_X8_403 rfl (Nat.le_of_ble_eq_true rfl) (Nat.le_of_ble_eq_true rfl) rfl (Nat.le_of_ble_eq_true rfl) dX8_partner_25 (fun _ s4 => ?_)
      refine zv_iload_n hX dX8_partner_28 1 rfl ?_
      refine zv_aload_n hX dX8_partner_29 0 rfl ?_
      refine zv_geti hX wf_X8_391 wc_8 zd_76 zj_76_32 c9_8 zr_76_32 dX8_partner_30 ?_
      refine zv_icmp_ge (tgt := 50) hX dX8_partner_33 rfl ?_ ?_
      · refine zv_iconst (v := (-1 : Int32)) hX dX8_partner_50 zi_i_m1 ?_
        exact zv_sub [] rfl (b_X8_partner_51 hX hT (-1 : Int32) s4)
      · refine zv_aload_n hX dX8_partner_36 0 rfl ?_
        refine zv_geta hX wf_X8_63 wc_8 zd_76 zj_76_31 c9_8 zr_76_31 (by decide) dX8_partner_37 ?_
        refine zv_bipush (v := (nI 7)) hX dX8_partner_40 zi_b_7 ?_
        refine zv_iload_n hX dX8_partner_42 1 rfl ?_
        refine zv_imul hX dX8_partner_43 ?_
        refine zv_iload_n hX dX8_partner_44 2 rfl ?_
        refine zv_iadd hX dX8_partner_45 ?_
        refine zv_iald hX dX8_partner_46 (fun x5 => ?_)
        refine zv_goto (tgt := 51) hX dX8_partner_47 rfl ?_
        exact zv_sub [] rfl (b_X8_partner_51 hX hT x5 s4)
    · refine zv_bipush (v := (-3 : Int32)) hX dX8_partner_21 zi_b_m3 ?_
      exact zv_ireti hX hT dX8_partner_23
  · refine zv_bipush (v := (-2 : Int32)) hX dX8_partner_14 zi_b_m2 ?_
    exact zv_ireti hX hT dX8_partner_16
theorem dX8_perform_0 : decode cX8_perform 0 = .ok (.aload_n 0, 1) := by decide +kernel
theorem dX8_perform_1 : decode cX8_perform 1 = .ok (.iconst 0, 1) := by decide +kernel
theorem dX8_perform_2 : decode cX8_perform 2 = .ok (.putfield 1, 3) := by decide +kernel
theorem dX8_perform_5 : decode cX8_perform 5 = .ok (.aload_n 0, 1) := by decide +kernel
theorem dX8_perform_6 : decode cX8_perform 6 = .ok (.iload_n 1, 1) := by decide +kernel
theorem dX8_perform_7 : decode cX8_perform 7 = .ok (.invokevirtual 352, 3) := by decide +kernel
theorem dX8_perform_10 : decode cX8_perform 10 = .ok (.istore_n 2, 1) := by decide +kernel
theorem dX8_perform_11 : decode cX8_perform 11 = .ok (.iload_n 2, 1) := by decide +kernel
theorem dX8_perform_12 : decode cX8_perform 12 = .ok (.ifCond .eq 5, 3) := by decide +kernel
theorem dX8_perform_15 : decode cX8_perform 15 = .ok (.iload_n 2, 1) := by decide +kernel
theorem dX8_perform_16 : decode cX8_perform 16 = .ok (.ireturn, 1) := by decide +kernel
theorem dX8_perform_17 : decode cX8_perform 17 = .ok (.aload_n 0, 1) := by decide +kernel
theorem dX8_perform_18 : decode cX8_perform 18 = .ok (.invokevirtual 307, 3) := by decide +kernel
theorem dX8_perform_21 : decode cX8_perform 21 = .ok (.aload_n 0, 1) := by decide +kernel
theorem dX8_perform_22 : decode cX8_perform 22 = .ok (.iload_n 1, 1) := by decide +kernel
theorem dX8_perform_23 : decode cX8_perform 23 = .ok (.invokevirtual 355, 3) := by decide +kernel
theorem dX8_perform_26 : decode cX8_perform 26 = .ok (.istore_n 3, 1) := by decide +kernel
theorem dX8_perform_27 : decode cX8_perform 27 = .ok (.iload_n 3, 1) := by decide +kernel
theorem dX8_perform_28 : decode cX8_perform 28 = .ok (.ifCond .le 7, 3) := by decide +kernel
theorem dX8_perform_31 : decode cX8_perform 31 = .ok (.aload_n 0, 1) := by decide +kernel
theorem dX8_perform_32 : decode cX8_perform 32 = .ok (.invokevirtual 313, 3) := by decide +kernel
theorem dX8_perform_35 : decode cX8_perform 35 = .ok (.iload_n 3, 1) := by decide +kernel
theorem dX8_perform_36 : decode cX8_perform 36 = .ok (.ireturn, 1) := by decide +kernel
def f_X8_perform_35 (v3 : Int32) (s : zS) : Option (Int32 × zS) :=
  some (v3, s)
set_option maxRecDepth 20000 in
theorem b_X8_perform_35 {X : zX} (hX : zx_ok X cX8_perform RX8 4) (hT : zx_rt X (some .int) (zR 74 1829)) : ∀ (v3 : Int32) (s : zS), zV X (zq X zrI) 4 35 [(3, .int v3)] [] s (f_X8_perform_35 v3 s) := by
  intro v3 s
  unfold f_X8_perform_35
  refine zv_iload_n hX dX8_perform_35 0 rfl ?_
  exact zv_ireti hX hT dX8_perform_36
def f_X8_perform (v1 : Int32) (s : zS) : Option (Int32 × zS) :=
  zb (zs_i s 76 0 (0 : Int32)) fun s1 =>
  zbd (f_X8_noTray v1 s1) fun r2 s3 =>
  if r2 = 0 then
  (zbd (f_X8_keeps s3) fun _ s4 =>
  zbd (f_X8_tells v1 s4) fun r5 s6 =>
  if r5 ≤ 0 then
  (f_X8_perform_35 r5 s6)
  else
  zbd (f_X8_notes s6) fun _ s7 =>
  f_X8_perform_35 r5 s7)
  else
  some (r2, s3)
set_option maxRecDepth 20000 in
theorem c_X8_perform (Y : zG) (v1 : Int32) (s : zS) : zM Y yX8_perform cX8_perform 4 (some .int) (zR 74 1829) [.ref (zy_a Y 76), .int v1] s zrI (f_X8_perform v1 s) := by
  refine zm_start (by decide +kernel) (Nat.le_of_ble_eq_true rfl) ?_
  intro X hY hT hX
  subst hY
  have hX : zx_ok X cX8_perform RX8 4 := hX
  show zV X (zq X zrI) 4 0 [(0, .ref (zx_ad X 76)), (1, .int v1)] [] s _
  unfold f_X8_perform
  refine zv_aload_n hX dX8_perform_0 0 rfl ?_
  refine zv_iconst (v := (0 : Int32)) hX dX8_perform_1 zi_i_0 ?_
  refine zv_puti hX wf_X8_1 wc_8 wk_8_0 zd_76 zj_76_0 c9_8 zr_76_0 dX8_perform_2 (fun s1 => ?_)
  refine zv_aload_n hX dX8_perform_5 0 rfl ?_
  refine zv_iload_n hX dX8_perform_6 1 rfl ?_
  refine zv_cVI [.int v1] (rest := []) hX hT.2.2.2.2 (c_X8_noTray (zx_Y X) v1 s1) wv_X8_noTray c9_8 zd_76 wm_X8_352 rfl (Nat.le_of_ble_eq_true rfl) (Nat.le_of_ble_eq_true rfl) rfl (Nat.le_of_ble_eq_true rfl) dX8_perform_7 (fun r2 s3 => ?_)
  refine zv_istore_n (lv' := [(2, .int r2), (0, .ref (zx_ad X 76)), (1, .int v1)]) hX dX8_perform_10 (by decide) rfl ?_
  refine zv_iload_n hX dX8_perform_11 0 rfl ?_
  refine zv_if_eq (tgt := 17) hX dX8_perform_12 rfl ?_ ?_
  · refine zv_aload_n hX dX8_perform_17 1 rfl ?_
    refine zv_cVV [] (rest := []) hX hT.2.2.2.2 (c_X8_keeps (zx_Y X) s3) wv_X8_keeps c9_8 zd_76 wm_X8_307 rfl (Nat.le_of_ble_eq_true rfl) (Nat.le_of_ble_eq_true rfl) rfl (Nat.le_of_ble_eq_true rfl) dX8_perform_18 (fun _ s4 => ?_)
    refine zv_aload_n hX dX8_perform_21 1 rfl ?_
    refine zv_iload_n hX dX8_perform_22 2 rfl ?_
    refine zv_cVI [.int v1] (rest := []) hX hT.2.2.2.2 (c_X8_tells (zx_Y X) v1 s4) wv_X8_tells c9_8 zd_76 wm_X8_355 rfl (Nat.le_of_ble_eq_true rfl) (Nat.le_of_ble_eq_true rfl) rfl (Nat.le_of_ble_eq_true rfl) dX8_perform_23 (fun r5 s6 => ?_)
    refine zv_istore_n (lv' := [(3, .int r5), (2, .int r2), (0, .ref (zx_ad X 76)), (1, .int v1)]) hX dX8_perform_26 (by decide) rfl ?_
    refine zv_iload_n hX dX8_perform_27 0 rfl ?_
    refine zv_if_le (tgt := 35) hX dX8_perform_28 rfl ?_ ?_
    · exact zv_sub [0] rfl (b_X8_perform_35 hX hT r5 s6)
    · refine zv_aload_n hX dX8_perform_31 2 rfl ?_
      refine zv_cVV [] (rest := []) hX hT.2.2.2.2 (c_X8_notes (zx_Y X) s6) wv_X8_notes c9_8 zd_76 wm_X8_313 rfl (Nat.le_of_ble_eq_true rfl) (Nat.le_of_ble_eq_true rfl) rfl (Nat.le_of_ble_eq_true rfl) dX8_perform_32 (fun _ s7 => ?_)
      exact zv_sub [0] rfl (b_X8_perform_35 hX hT r5 s7)
  · refine zv_iload_n hX dX8_perform_15 0 rfl ?_
    exact zv_ireti hX hT dX8_perform_16
theorem dX8_person_0 : decode cX8_person 0 = .ok (.aload_n 0, 1) := by decide +kernel
theorem dX8_person_1 : decode cX8_person 1 = .ok (.iconst 0, 1) := by decide +kernel
theorem dX8_person_2 : decode cX8_person 2 = .ok (.putfield 1, 3) := by decide +kernel
theorem dX8_person_5 : decode cX8_person 5 = .ok (.aload_n 0, 1) := by decide +kernel
theorem dX8_person_6 : decode cX8_person 6 = .ok (.iload_n 1, 1) := by decide +kernel
theorem dX8_person_7 : decode cX8_person 7 = .ok (.i2l, 1) := by decide +kernel
theorem dX8_person_8 : decode cX8_person 8 = .ok (.invokevirtual 219, 3) := by decide +kernel
theorem dX8_person_11 : decode cX8_person 11 = .ok (.ifCond .ne 6, 3) := by decide +kernel
theorem dX8_person_14 : decode cX8_person 14 = .ok (.bipush (-2), 2) := by decide +kernel
theorem dX8_person_16 : decode cX8_person 16 = .ok (.ireturn, 1) := by decide +kernel
theorem dX8_person_17 : decode cX8_person 17 = .ok (.aload_n 0, 1) := by decide +kernel
theorem dX8_person_18 : decode cX8_person 18 = .ok (.invokevirtual 284, 3) := by decide +kernel
theorem dX8_person_21 : decode cX8_person 21 = .ok (.iload_n 2, 1) := by decide +kernel
theorem dX8_person_22 : decode cX8_person 22 = .ok (.tableswitch 111 0 6 #[42, 52, 65, 75, 85, 95, 105], 42) := by decide +kernel
theorem dX8_person_64 : decode cX8_person 64 = .ok (.aload_n 0, 1) := by decide +kernel
theorem dX8_person_65 : decode cX8_person 65 = .ok (.getfield 13, 3) := by decide +kernel
theorem dX8_person_68 : decode cX8_person 68 = .ok (.bipush 29, 2) := by decide +kernel
theorem dX8_person_70 : decode cX8_person 70 = .ok (.iload_n 1, 1) := by decide +kernel
theorem dX8_person_71 : decode cX8_person 71 = .ok (.iadd, 1) := by decide +kernel
theorem dX8_person_72 : decode cX8_person 72 = .ok (.iaload, 1) := by decide +kernel
theorem dX8_person_73 : decode cX8_person 73 = .ok (.ireturn, 1) := by decide +kernel
theorem dX8_person_74 : decode cX8_person 74 = .ok (.aload_n 0, 1) := by decide +kernel
theorem dX8_person_75 : decode cX8_person 75 = .ok (.getfield 13, 3) := by decide +kernel
theorem dX8_person_78 : decode cX8_person 78 = .ok (.bipush 29, 2) := by decide +kernel
theorem dX8_person_80 : decode cX8_person 80 = .ok (.iload_n 1, 1) := by decide +kernel
theorem dX8_person_81 : decode cX8_person 81 = .ok (.iadd, 1) := by decide +kernel
theorem dX8_person_82 : decode cX8_person 82 = .ok (.iaload, 1) := by decide +kernel
theorem dX8_person_83 : decode cX8_person 83 = .ok (.invokestatic 233, 3) := by decide +kernel
theorem dX8_person_86 : decode cX8_person 86 = .ok (.ireturn, 1) := by decide +kernel
theorem dX8_person_87 : decode cX8_person 87 = .ok (.aload_n 0, 1) := by decide +kernel
theorem dX8_person_88 : decode cX8_person 88 = .ok (.getfield 13, 3) := by decide +kernel
theorem dX8_person_91 : decode cX8_person 91 = .ok (.bipush 36, 2) := by decide +kernel
theorem dX8_person_93 : decode cX8_person 93 = .ok (.iload_n 1, 1) := by decide +kernel
theorem dX8_person_94 : decode cX8_person 94 = .ok (.iadd, 1) := by decide +kernel
theorem dX8_person_95 : decode cX8_person 95 = .ok (.iaload, 1) := by decide +kernel
theorem dX8_person_96 : decode cX8_person 96 = .ok (.ireturn, 1) := by decide +kernel
theorem dX8_person_97 : decode cX8_person 97 = .ok (.aload_n 0, 1) := by decide +kernel
theorem dX8_person_98 : decode cX8_person 98 = .ok (.getfield 13, 3) := by decide +kernel
theorem dX8_person_101 : decode cX8_person 101 = .ok (.bipush 8, 2) := by decide +kernel
theorem dX8_person_103 : decode cX8_person 103 = .ok (.iload_n 1, 1) := by decide +kernel
theorem dX8_person_104 : decode cX8_person 104 = .ok (.iadd, 1) := by decide +kernel
theorem dX8_person_105 : decode cX8_person 105 = .ok (.iaload, 1) := by decide +kernel
theorem dX8_person_106 : decode cX8_person 106 = .ok (.ireturn, 1) := by decide +kernel
theorem dX8_person_107 : decode cX8_person 107 = .ok (.aload_n 0, 1) := by decide +kernel
theorem dX8_person_108 : decode cX8_person 108 = .ok (.getfield 13, 3) := by decide +kernel
theorem dX8_person_111 : decode cX8_person 111 = .ok (.bipush 15, 2) := by decide +kernel
theorem dX8_person_113 : decode cX8_person 113 = .ok (.iload_n 1, 1) := by decide +kernel
theorem dX8_person_114 : decode cX8_person 114 = .ok (.iadd, 1) := by decide +kernel
theorem dX8_person_115 : decode cX8_person 115 = .ok (.iaload, 1) := by decide +kernel
theorem dX8_person_116 : decode cX8_person 116 = .ok (.ireturn, 1) := by decide +kernel
theorem dX8_person_117 : decode cX8_person 117 = .ok (.aload_n 0, 1) := by decide +kernel
theorem dX8_person_118 : decode cX8_person 118 = .ok (.getfield 13, 3) := by decide +kernel
theorem dX8_person_121 : decode cX8_person 121 = .ok (.bipush 22, 2) := by decide +kernel
theorem dX8_person_123 : decode cX8_person 123 = .ok (.iload_n 1, 1) := by decide +kernel
theorem dX8_person_124 : decode cX8_person 124 = .ok (.iadd, 1) := by decide +kernel
theorem dX8_person_125 : decode cX8_person 125 = .ok (.iaload, 1) := by decide +kernel
theorem dX8_person_126 : decode cX8_person 126 = .ok (.ireturn, 1) := by decide +kernel
theorem dX8_person_127 : decode cX8_person 127 = .ok (.aload_n 0, 1) := by decide +kernel
theorem dX8_person_128 : decode cX8_person 128 = .ok (.iload_n 1, 1) := by decide +kernel
theorem dX8_person_129 : decode cX8_person 129 = .ok (.invokevirtual 287, 3) := by decide +kernel
theorem dX8_person_132 : decode cX8_person 132 = .ok (.ireturn, 1) := by decide +kernel
theorem dX8_person_133 : decode cX8_person 133 = .ok (.bipush (-2), 2) := by decide +kernel
theorem dX8_person_135 : decode cX8_person 135 = .ok (.ireturn, 1) := by decide +kernel
def f_X8_person (v1 : Int32) (v2 : Int32) (s : zS) : Option (Int32 × zS) :=
  zb (zs_i s 76 0 (0 : Int32)) fun s1 =>
  zbd (f_X8_isPerson (v1.toInt64) s1) fun r2 s3 =>
  if ¬ r2 = 0 then
  (zbd (f_X8_lays s3) fun _ s4 =>
  if v2 = (0 : Int32) then
  ((zr_i s4 77 ((nI 29) + v1)).bind fun x5 =>
  some (x5, s4))
  else if v2 = (1 : Int32) then
  ((zr_i s4 77 ((nI 29) + v1)).bind fun x6 =>
  zbd (f_X8_bitsOf x6 s4) fun r7 s8 =>
  some (r7, s8))
  else if v2 = (nI 2) then
  ((zr_i s4 77 ((nI 36) + v1)).bind fun x9 =>
  some (x9, s4))
  else if v2 = (nI 3) then
  ((zr_i s4 77 ((nI 8) + v1)).bind fun x10 =>
  some (x10, s4))
  else if v2 = (nI 4) then
  ((zr_i s4 77 ((nI 15) + v1)).bind fun x11 =>
  some (x11, s4))
  else if v2 = (nI 5) then
  ((zr_i s4 77 ((nI 22) + v1)).bind fun x12 =>
  some (x12, s4))
  else if v2 = (nI 6) then
  (zbd (f_X8_matchesOf v1 s4) fun r13 s14 =>
  some (r13, s14))
  else 
  some ((-2 : Int32), s4))
  else
  some ((-2 : Int32), s3)
set_option maxRecDepth 20000 in
theorem c_X8_person (Y : zG) (v1 : Int32) (v2 : Int32) (s : zS) : zM Y yX8_person cX8_person 3 (some .int) (zR 71 1755) [.ref (zy_a Y 76), .int v1, .int v2] s zrI (f_X8_person v1 v2 s) := by
  refine zm_start (by decide +kernel) (Nat.le_of_ble_eq_true rfl) ?_
  intro X hY hT hX
  subst hY
  have hX : zx_ok X cX8_person RX8 3 := hX
  show zV X (zq X zrI) 3 0 [(0, .ref (zx_ad X 76)), (1, .int v1), (2, .int v2)] [] s _
  unfold f_X8_person
  refine zv_aload_n hX dX8_person_0 0 rfl ?_
  refine zv_iconst (v := (0 : Int32)) hX dX8_person_1 zi_i_0 ?_
  refine zv_puti hX wf_X8_1 wc_8 wk_8_0 zd_76 zj_76_0 c9_8 zr_76_0 dX8_person_2 (fun s1 => ?_)
  refine zv_aload_n hX dX8_person_5 0 rfl ?_
  refine zv_iload_n hX dX8_person_6 1 rfl ?_
  refine zv_i2l hX dX8_person_7 ?_
  refine zv_cVI [.long (v1.toInt64)] (rest := []) hX hT.2.2.2.2 (c_X8_isPerson (zx_Y X) (v1.toInt64) s1) wv_X8_isPerson c9_8 zd_76 wm_X8_219 rfl (Nat.le_of_ble_eq_true rfl) (Nat.le_of_ble_eq_true rfl) rfl (Nat.le_of_ble_eq_true rfl) dX8_person_8 (fun r2 s3 => ?_)
  refine zv_if_ne (tgt := 17) hX dX8_person_11 rfl ?_ ?_
  · refine zv_aload_n hX dX8_person_17 0 rfl ?_
    refine zv_cVV [] (rest := []) hX hT.2.2.2.2 (c_X8_lays (zx_Y X) s3) wv_X8_lays c9_8 zd_76 wm_X8_284 rfl (Nat.le_of_ble_eq_true rfl) (Nat.le_of_ble_eq_true rfl) rfl (Nat.le_of_ble_eq_true rfl) dX8_person_18 (fun _ s4 => ?_)
    refine zv_iload_n hX dX8_person_21 2 rfl ?_
    refine zv_ite (fun h22_0 => ?_) (fun h22_0 => ?_)
    · refine zv_tabI (tgt := 64) hX dX8_person_22 (0 : Int32) h22_0 (by decide) (by decide) rfl rfl ?_
      refine zv_aload_n hX dX8_person_64 0 rfl ?_
      refine zv_geta hX wf_X8_13 wc_8 zd_76 zj_76_1 c9_8 zr_76_1 (by decide) dX8_person_65 ?_
      refine zv_bipush (v := (nI 29)) hX dX8_person_68 zi_b_29 ?_
      refine zv_iload_n hX dX8_person_70 1 rfl ?_
      refine zv_iadd hX dX8_person_71 ?_
      refine zv_iald hX dX8_person_72 (fun x5 => ?_)
      exact zv_ireti hX hT dX8_person_73
    refine zv_ite (fun h22_1 => ?_) (fun h22_1 => ?_)
    · refine zv_tabI (tgt := 74) hX dX8_person_22 (1 : Int32) h22_1 (by decide) (by decide) rfl rfl ?_
      refine zv_aload_n hX dX8_person_74 0 rfl ?_
      refine zv_geta hX wf_X8_13 wc_8 zd_76 zj_76_1 c9_8 zr_76_1 (by decide) dX8_person_75 ?_
      refine zv_bipush (v := (nI 29)) hX dX8_person_78 zi_b_29 ?_
      refine zv_iload_n hX dX8_person_80 1 rfl ?_
      refine zv_iadd hX dX8_person_81 ?_
      refine zv_iald hX dX8_person_82 (fun x6 => ?_)
      refine zv_cSI [.int x6] (rest := []) hX hT.2.2.2.2 (c_X8_bitsOf (zx_Y X) x6 s4) wv_X8_bitsOf wm_X8_233 rfl (Nat.le_of_ble_eq_true rfl) (Nat.le_of_ble_eq_true rfl) rfl (Nat.le_of_ble_eq_true rfl) dX8_person_83 (fun r7 s8 => ?_)
      exact zv_ireti hX hT dX8_person_86
    refine zv_ite (fun h22_2 => ?_) (fun h22_2 => ?_)
    · refine zv_tabI (tgt := 87) hX dX8_person_22 (nI 2) h22_2 (by decide) (by decide) rfl rfl ?_
      refine zv_aload_n hX dX8_person_87 0 rfl ?_
      refine zv_geta hX wf_X8_13 wc_8 zd_76 zj_76_1 c9_8 zr_76_1 (by decide) dX8_person_88 ?_
      refine zv_bipush (v := (nI 36)) hX dX8_person_91 zi_b_36 ?_
      refine zv_iload_n hX dX8_person_93 1 rfl ?_
      refine zv_iadd hX dX8_person_94 ?_
      refine zv_iald hX dX8_person_95 (fun x9 => ?_)
      exact zv_ireti hX hT dX8_person_96
    refine zv_ite (fun h22_3 => ?_) (fun h22_3 => ?_)
    · refine zv_tabI (tgt := 97) hX dX8_person_22 (nI 3) h22_3 (by decide) (by decide) rfl rfl ?_
      refine zv_aload_n hX dX8_person_97 0 rfl ?_
      refine zv_geta hX wf_X8_13 wc_8 zd_76 zj_76_1 c9_8 zr_76_1 (by decide) dX8_person_98 ?_
      refine zv_bipush (v := (nI 8)) hX dX8_person_101 zi_b_8 ?_
      refine zv_iload_n hX dX8_person_103 1 rfl ?_
      refine zv_iadd hX dX8_person_104 ?_
      refine zv_iald hX dX8_person_105 (fun x10 => ?_)
      exact zv_ireti hX hT dX8_person_106
    refine zv_ite (fun h22_4 => ?_) (fun h22_4 => ?_)
    · refine zv_tabI (tgt := 107) hX dX8_person_22 (nI 4) h22_4 (by decide) (by decide) rfl rfl ?_
      refine zv_aload_n hX dX8_person_107 0 rfl ?_
      refine zv_geta hX wf_X8_13 wc_8 zd_76 zj_76_1 c9_8 zr_76_1 (by decide) dX8_person_108 ?_
      refine zv_bipush (v := (nI 15)) hX dX8_person_111 zi_b_15 ?_
      refine zv_iload_n hX dX8_person_113 1 rfl ?_
      refine zv_iadd hX dX8_person_114 ?_
      refine zv_iald hX dX8_person_115 (fun x11 => ?_)
      exact zv_ireti hX hT dX8_person_116
    refine zv_ite (fun h22_5 => ?_) (fun h22_5 => ?_)
    · refine zv_tabI (tgt := 117) hX dX8_person_22 (nI 5) h22_5 (by decide) (by decide) rfl rfl ?_
      refine zv_aload_n hX dX8_person_117 0 rfl ?_
      refine zv_geta hX wf_X8_13 wc_8 zd_76 zj_76_1 c9_8 zr_76_1 (by decide) dX8_person_118 ?_
      refine zv_bipush (v := (nI 22)) hX dX8_person_121 zi_b_22 ?_
      refine zv_iload_n hX dX8_person_123 1 rfl ?_
      refine zv_iadd hX dX8_person_124 ?_
      refine zv_iald hX dX8_person_125 (fun x12 => ?_)
      exact zv_ireti hX hT dX8_person_126
    refine zv_ite (fun h22_6 => ?_) (fun h22_6 => ?_)
    · refine zv_tabI (tgt := 127) hX dX8_person_22 (nI 6) h22_6 (by decide) (by decide) rfl rfl ?_
      refine zv_aload_n hX dX8_person_127 0 rfl ?_
      refine zv_iload_n hX dX8_person_128 1 rfl ?_
      refine zv_cVI [.int v1] (rest := []) hX hT.2.2.2.2 (c_X8_matchesOf (zx_Y X) v1 s4) wv_X8_matchesOf c9_8 zd_76 wm_X8_287 rfl (Nat.le_of_ble_eq_true rfl) (Nat.le_of_ble_eq_true rfl) rfl (Nat.le_of_ble_eq_true rfl) dX8_person_129 (fun r13 s14 => ?_)
      exact zv_ireti hX hT dX8_person_132
    refine zv_tabO (tgt := 133) hX dX8_person_22 (zt_out 0 7 (by decide) (fun j hj => by match j, hj with | 0, _ => exact h22_0 | 1, _ => exact h22_1 | 2, _ => exact h22_2 | 3, _ => exact h22_3 | 4, _ => exact h22_4 | 5, _ => exact h22_5 | 6, _ => exact h22_6)) rfl ?_
    refine zv_bipush (v := (-2 : Int32)) hX dX8_person_133 zi_b_m2 ?_
    exact zv_ireti hX hT dX8_person_135
  · refine zv_bipush (v := (-2 : Int32)) hX dX8_person_14 zi_b_m2 ?_
    exact zv_ireti hX hT dX8_person_16
theorem dX8_plain_0 : decode cX8_plain 0 = .ok (.iconst 0, 1) := by decide +kernel
theorem dX8_plain_1 : decode cX8_plain 1 = .ok (.istore_n 1, 1) := by decide +kernel
theorem dX8_plain_2 : decode cX8_plain 2 = .ok (.iload_n 1, 1) := by decide +kernel
theorem dX8_plain_3 : decode cX8_plain 3 = .ok (.sipush 1155, 3) := by decide +kernel
theorem dX8_plain_6 : decode cX8_plain 6 = .ok (.if_icmp .ge 13, 3) := by decide +kernel
theorem dX8_plain_9 : decode cX8_plain 9 = .ok (.aload_n 0, 1) := by decide +kernel
theorem dX8_plain_10 : decode cX8_plain 10 = .ok (.iload_n 1, 1) := by decide +kernel
theorem dX8_plain_11 : decode cX8_plain 11 = .ok (.iconst 0, 1) := by decide +kernel
theorem dX8_plain_12 : decode cX8_plain 12 = .ok (.iastore, 1) := by decide +kernel
theorem dX8_plain_13 : decode cX8_plain 13 = .ok (.iinc 1 1, 3) := by decide +kernel
theorem dX8_plain_16 : decode cX8_plain 16 = .ok (.goto (-14), 3) := by decide +kernel
theorem dX8_plain_19 : decode cX8_plain 19 = .ok (.iconst 0, 1) := by decide +kernel
theorem dX8_plain_20 : decode cX8_plain 20 = .ok (.istore_n 1, 1) := by decide +kernel
theorem dX8_plain_21 : decode cX8_plain 21 = .ok (.iload_n 1, 1) := by decide +kernel
theorem dX8_plain_22 : decode cX8_plain 22 = .ok (.bipush 7, 2) := by decide +kernel
theorem dX8_plain_24 : decode cX8_plain 24 = .ok (.if_icmp .ge 16, 3) := by decide +kernel
theorem dX8_plain_27 : decode cX8_plain 27 = .ok (.aload_n 0, 1) := by decide +kernel
theorem dX8_plain_28 : decode cX8_plain 28 = .ok (.bipush 22, 2) := by decide +kernel
theorem dX8_plain_30 : decode cX8_plain 30 = .ok (.iload_n 1, 1) := by decide +kernel
theorem dX8_plain_31 : decode cX8_plain 31 = .ok (.iadd, 1) := by decide +kernel
theorem dX8_plain_32 : decode cX8_plain 32 = .ok (.iconst (-1), 1) := by decide +kernel
theorem dX8_plain_33 : decode cX8_plain 33 = .ok (.iastore, 1) := by decide +kernel
theorem dX8_plain_34 : decode cX8_plain 34 = .ok (.iinc 1 1, 3) := by decide +kernel
theorem dX8_plain_37 : decode cX8_plain 37 = .ok (.goto (-16), 3) := by decide +kernel
theorem dX8_plain_40 : decode cX8_plain 40 = .ok (.return_, 1) := by decide +kernel
def f_X8_plain_21 : Nat → Nat → Int32 → zS → Option (Unit × zS)
  | 0, _, _, _ => none
  | n + 1, v0, v1, s =>
    if (nI 7) ≤ v1 then
    (some ((), s))
    else
    (zw_i s v0 ((nI 22) + v1) (-1 : Int32)).bind fun s1 =>
    zb (v1 + (1 : Int32)) fun x2 =>
    f_X8_plain_21 n v0 x2 s1
set_option maxRecDepth 20000 in
theorem b_X8_plain_21 {X : zX} (hX : zx_ok X cX8_plain RX8 2) (hT : zx_rt X none (zR 0 0)) : ∀ (n : Nat) (v0 : Nat) (v1 : Int32) (s : zS), zV X (zq X zrV) 2 21 [(0, .ref (zx_ad X v0)), (1, .int v1)] [] s (f_X8_plain_21 n v0 v1 s) := by
  intro n
  induction n with
  | zero => intro v0 v1 s; exact zv_none
  | succ n ih =>
    intro v0 v1 s
    rw [f_X8_plain_21]
    refine zv_iload_n hX dX8_plain_21 1 rfl ?_
    refine zv_bipush (v := (nI 7)) hX dX8_plain_22 zi_b_7 ?_
    refine zv_icmp_ge (tgt := 40) hX dX8_plain_24 rfl ?_ ?_
    · exact zv_vret hX hT dX8_plain_40
    · refine zv_aload_n hX dX8_plain_27 0 rfl ?_
      refine zv_bipush (v := (nI 22)) hX dX8_plain_28 zi_b_22 ?_
      refine zv_iload_n hX dX8_plain_30 1 rfl ?_
      refine zv_iadd hX dX8_plain_31 ?_
      refine zv_iconst (v := (-1 : Int32)) hX dX8_plain_32 zi_i_m1 ?_
      refine zv_iast hX dX8_plain_33 (fun s1 => ?_)
      refine zv_iincB (lw := fun x2 => [(1, .int x2), (0, .ref (zx_ad X v0))]) hX dX8_plain_34 1 rfl zi_i_1 (by decide) (fun _ => rfl) (fun x2 => ?_)
      refine zv_goto (tgt := 21) hX dX8_plain_37 rfl ?_
      exact zv_sub [1, 0] rfl (ih v0 x2 s1)
def f_X8_plain_2 : Nat → Nat → Int32 → zS → Option (Unit × zS)
  | 0, _, _, _ => none
  | n + 1, v0, v1, s =>
    if (nI 1155) ≤ v1 then
    (f_X8_plain_21 zFU v0 (0 : Int32) s)
    else
    (zw_i s v0 v1 (0 : Int32)).bind fun s3 =>
    zb (v1 + (1 : Int32)) fun x4 =>
    f_X8_plain_2 n v0 x4 s3
set_option maxRecDepth 20000 in
theorem b_X8_plain_2 {X : zX} (hX : zx_ok X cX8_plain RX8 2) (hT : zx_rt X none (zR 0 0)) : ∀ (n : Nat) (v0 : Nat) (v1 : Int32) (s : zS), zV X (zq X zrV) 2 2 [(0, .ref (zx_ad X v0)), (1, .int v1)] [] s (f_X8_plain_2 n v0 v1 s) := by
  intro n
  induction n with
  | zero => intro v0 v1 s; exact zv_none
  | succ n ih =>
    intro v0 v1 s
    rw [f_X8_plain_2]
    refine zv_iload_n hX dX8_plain_2 1 rfl ?_
    refine zv_sipush (v := (nI 1155)) hX dX8_plain_3 zi_s_1155 ?_
    refine zv_icmp_ge (tgt := 19) hX dX8_plain_6 rfl ?_ ?_
    · refine zv_iconst (v := (0 : Int32)) hX dX8_plain_19 zi_i_0 ?_
      refine zv_istore_n (lv' := [(1, .int (0 : Int32)), (0, .ref (zx_ad X v0))]) hX dX8_plain_20 (by decide) rfl ?_
      exact zv_sub [1, 0] rfl (b_X8_plain_21 hX hT zFU v0 (0 : Int32) s)
    · refine zv_aload_n hX dX8_plain_9 0 rfl ?_
      refine zv_iload_n hX dX8_plain_10 1 rfl ?_
      refine zv_iconst (v := (0 : Int32)) hX dX8_plain_11 zi_i_0 ?_
      refine zv_iast hX dX8_plain_12 (fun s3 => ?_)
      refine zv_iincB (lw := fun x4 => [(1, .int x4), (0, .ref (zx_ad X v0))]) hX dX8_plain_13 1 rfl zi_i_1 (by decide) (fun _ => rfl) (fun x4 => ?_)
      refine zv_goto (tgt := 2) hX dX8_plain_16 rfl ?_
      exact zv_sub [1, 0] rfl (ih v0 x4 s3)
def f_X8_plain (v0 : Nat) (s : zS) : Option (Unit × zS) :=
  f_X8_plain_2 zFU v0 (0 : Int32) s
set_option maxRecDepth 20000 in
theorem c_X8_plain (Y : zG) (v0 : Nat) (s : zS) : zM Y yX8_plain cX8_plain 2 none (zR 0 0) [.ref (zy_a Y v0)] s zrV (f_X8_plain v0 s) := by
  refine zm_start (by decide +kernel) (Nat.le_of_ble_eq_true rfl) ?_
  intro X hY hT hX
  subst hY
  have hX : zx_ok X cX8_plain RX8 2 := hX
  show zV X (zq X zrV) 2 0 [(0, .ref (zx_ad X v0))] [] s _
  unfold f_X8_plain
  refine zv_iconst (v := (0 : Int32)) hX dX8_plain_0 zi_i_0 ?_
  refine zv_istore_n (lv' := [(1, .int (0 : Int32)), (0, .ref (zx_ad X v0))]) hX dX8_plain_1 (by decide) rfl ?_
  exact zv_sub [1, 0] rfl (b_X8_plain_2 hX hT zFU v0 (0 : Int32) s)
theorem dX8_wordOf_0 : decode cX8_wordOf 0 = .ok (.iload_n 1, 1) := by decide +kernel
theorem dX8_wordOf_1 : decode cX8_wordOf 1 = .ok (.tableswitch 133 3 13 #[90, 133, 133, 133, 133, 59, 61, 63, 76, 104, 118], 59) := by decide +kernel
theorem dX8_wordOf_60 : decode cX8_wordOf 60 = .ok (.iconst 0, 1) := by decide +kernel
theorem dX8_wordOf_61 : decode cX8_wordOf 61 = .ok (.ireturn, 1) := by decide +kernel
theorem dX8_wordOf_62 : decode cX8_wordOf 62 = .ok (.iconst 1, 1) := by decide +kernel
theorem dX8_wordOf_63 : decode cX8_wordOf 63 = .ok (.ireturn, 1) := by decide +kernel
theorem dX8_wordOf_64 : decode cX8_wordOf 64 = .ok (.aload_n 0, 1) := by decide +kernel
theorem dX8_wordOf_65 : decode cX8_wordOf 65 = .ok (.getfield 158, 3) := by decide +kernel
theorem dX8_wordOf_68 : decode cX8_wordOf 68 = .ok (.ifCond .ne 7, 3) := by decide +kernel
theorem dX8_wordOf_71 : decode cX8_wordOf 71 = .ok (.iconst 2, 1) := by decide +kernel
theorem dX8_wordOf_72 : decode cX8_wordOf 72 = .ok (.goto 4, 3) := by decide +kernel
theorem dX8_wordOf_75 : decode cX8_wordOf 75 = .ok (.iconst (-1), 1) := by decide +kernel
theorem dX8_wordOf_76 : decode cX8_wordOf 76 = .ok (.ireturn, 1) := by decide +kernel
theorem dX8_wordOf_77 : decode cX8_wordOf 77 = .ok (.aload_n 0, 1) := by decide +kernel
theorem dX8_wordOf_78 : decode cX8_wordOf 78 = .ok (.getfield 158, 3) := by decide +kernel
theorem dX8_wordOf_81 : decode cX8_wordOf 81 = .ok (.iconst 1, 1) := by decide +kernel
theorem dX8_wordOf_82 : decode cX8_wordOf 82 = .ok (.if_icmp .ne 7, 3) := by decide +kernel
theorem dX8_wordOf_85 : decode cX8_wordOf 85 = .ok (.iconst 3, 1) := by decide +kernel
theorem dX8_wordOf_86 : decode cX8_wordOf 86 = .ok (.goto 4, 3) := by decide +kernel
theorem dX8_wordOf_89 : decode cX8_wordOf 89 = .ok (.iconst (-1), 1) := by decide +kernel
theorem dX8_wordOf_90 : decode cX8_wordOf 90 = .ok (.ireturn, 1) := by decide +kernel
theorem dX8_wordOf_91 : decode cX8_wordOf 91 = .ok (.aload_n 0, 1) := by decide +kernel
theorem dX8_wordOf_92 : decode cX8_wordOf 92 = .ok (.getfield 158, 3) := by decide +kernel
theorem dX8_wordOf_95 : decode cX8_wordOf 95 = .ok (.iconst 1, 1) := by decide +kernel
theorem dX8_wordOf_96 : decode cX8_wordOf 96 = .ok (.if_icmp .ne 7, 3) := by decide +kernel
theorem dX8_wordOf_99 : decode cX8_wordOf 99 = .ok (.iconst 4, 1) := by decide +kernel
theorem dX8_wordOf_100 : decode cX8_wordOf 100 = .ok (.goto 4, 3) := by decide +kernel
theorem dX8_wordOf_103 : decode cX8_wordOf 103 = .ok (.iconst (-1), 1) := by decide +kernel
theorem dX8_wordOf_104 : decode cX8_wordOf 104 = .ok (.ireturn, 1) := by decide +kernel
theorem dX8_wordOf_105 : decode cX8_wordOf 105 = .ok (.aload_n 0, 1) := by decide +kernel
theorem dX8_wordOf_106 : decode cX8_wordOf 106 = .ok (.getfield 158, 3) := by decide +kernel
theorem dX8_wordOf_109 : decode cX8_wordOf 109 = .ok (.iconst 1, 1) := by decide +kernel
theorem dX8_wordOf_110 : decode cX8_wordOf 110 = .ok (.if_icmp .ne 7, 3) := by decide +kernel
theorem dX8_wordOf_113 : decode cX8_wordOf 113 = .ok (.iconst 5, 1) := by decide +kernel
theorem dX8_wordOf_114 : decode cX8_wordOf 114 = .ok (.goto 4, 3) := by decide +kernel
theorem dX8_wordOf_117 : decode cX8_wordOf 117 = .ok (.iconst (-1), 1) := by decide +kernel
theorem dX8_wordOf_118 : decode cX8_wordOf 118 = .ok (.ireturn, 1) := by decide +kernel
theorem dX8_wordOf_119 : decode cX8_wordOf 119 = .ok (.aload_n 0, 1) := by decide +kernel
theorem dX8_wordOf_120 : decode cX8_wordOf 120 = .ok (.getfield 158, 3) := by decide +kernel
theorem dX8_wordOf_123 : decode cX8_wordOf 123 = .ok (.iconst 1, 1) := by decide +kernel
theorem dX8_wordOf_124 : decode cX8_wordOf 124 = .ok (.if_icmp .ne 8, 3) := by decide +kernel
theorem dX8_wordOf_127 : decode cX8_wordOf 127 = .ok (.bipush 6, 2) := by decide +kernel
theorem dX8_wordOf_129 : decode cX8_wordOf 129 = .ok (.goto 4, 3) := by decide +kernel
theorem dX8_wordOf_132 : decode cX8_wordOf 132 = .ok (.iconst (-1), 1) := by decide +kernel
theorem dX8_wordOf_133 : decode cX8_wordOf 133 = .ok (.ireturn, 1) := by decide +kernel
theorem dX8_wordOf_134 : decode cX8_wordOf 134 = .ok (.iconst (-1), 1) := by decide +kernel
theorem dX8_wordOf_135 : decode cX8_wordOf 135 = .ok (.ireturn, 1) := by decide +kernel
def f_X8_wordOf_104 (w0 : Int32) (s : zS) : Option (Int32 × zS) :=
  some (w0, s)
set_option maxRecDepth 20000 in
theorem b_X8_wordOf_104 {X : zX} (hX : zx_ok X cX8_wordOf RX8 2) (hT : zx_rt X (some .int) (zR 0 0)) : ∀ (w0 : Int32) (s : zS), zV X (zq X zrI) 2 104 [] [.int w0] s (f_X8_wordOf_104 w0 s) := by
  intro w0 s
  unfold f_X8_wordOf_104
  exact zv_ireti hX hT dX8_wordOf_104
def f_X8_wordOf_76 (w0 : Int32) (s : zS) : Option (Int32 × zS) :=
  some (w0, s)
set_option maxRecDepth 20000 in
theorem b_X8_wordOf_76 {X : zX} (hX : zx_ok X cX8_wordOf RX8 2) (hT : zx_rt X (some .int) (zR 0 0)) : ∀ (w0 : Int32) (s : zS), zV X (zq X zrI) 2 76 [] [.int w0] s (f_X8_wordOf_76 w0 s) := by
  intro w0 s
  unfold f_X8_wordOf_76
  exact zv_ireti hX hT dX8_wordOf_76
def f_X8_wordOf_90 (w0 : Int32) (s : zS) : Option (Int32 × zS) :=
  some (w0, s)
set_option maxRecDepth 20000 in
theorem b_X8_wordOf_90 {X : zX} (hX : zx_ok X cX8_wordOf RX8 2) (hT : zx_rt X (some .int) (zR 0 0)) : ∀ (w0 : Int32) (s : zS), zV X (zq X zrI) 2 90 [] [.int w0] s (f_X8_wordOf_90 w0 s) := by
  intro w0 s
  unfold f_X8_wordOf_90
  exact zv_ireti hX hT dX8_wordOf_90
def f_X8_wordOf_118 (w0 : Int32) (s : zS) : Option (Int32 × zS) :=
  some (w0, s)
set_option maxRecDepth 20000 in
theorem b_X8_wordOf_118 {X : zX} (hX : zx_ok X cX8_wordOf RX8 2) (hT : zx_rt X (some .int) (zR 0 0)) : ∀ (w0 : Int32) (s : zS), zV X (zq X zrI) 2 118 [] [.int w0] s (f_X8_wordOf_118 w0 s) := by
  intro w0 s
  unfold f_X8_wordOf_118
  exact zv_ireti hX hT dX8_wordOf_118
def f_X8_wordOf_133 (w0 : Int32) (s : zS) : Option (Int32 × zS) :=
  some (w0, s)
set_option maxRecDepth 20000 in
theorem b_X8_wordOf_133 {X : zX} (hX : zx_ok X cX8_wordOf RX8 2) (hT : zx_rt X (some .int) (zR 0 0)) : ∀ (w0 : Int32) (s : zS), zV X (zq X zrI) 2 133 [] [.int w0] s (f_X8_wordOf_133 w0 s) := by
  intro w0 s
  unfold f_X8_wordOf_133
  exact zv_ireti hX hT dX8_wordOf_133
def f_X8_wordOf (v1 : Int32) (s : zS) : Option (Int32 × zS) :=
  if v1 = (nI 3) then
  (if ¬ (s.1 76 15) = (1 : Int32) then
  (f_X8_wordOf_104 (-1 : Int32) s)
  else
  f_X8_wordOf_104 (nI 4) s)
  else if v1 = (nI 4) then
  (some ((-1 : Int32), s))
  else if v1 = (nI 5) then
  (some ((-1 : Int32), s))
  else if v1 = (nI 6) then
  (some ((-1 : Int32), s))
  else if v1 = (nI 7) then
  (some ((-1 : Int32), s))
  else if v1 = (nI 8) then
  (some ((0 : Int32), s))
  else if v1 = (nI 9) then
  (some ((1 : Int32), s))
  else if v1 = (nI 10) then
  (if ¬ (s.1 76 15) = 0 then
  (f_X8_wordOf_76 (-1 : Int32) s)
  else
  f_X8_wordOf_76 (nI 2) s)
  else if v1 = (nI 11) then
  (if ¬ (s.1 76 15) = (1 : Int32) then
  (f_X8_wordOf_90 (-1 : Int32) s)
  else
  f_X8_wordOf_90 (nI 3) s)
  else if v1 = (nI 12) then
  (if ¬ (s.1 76 15) = (1 : Int32) then
  (f_X8_wordOf_118 (-1 : Int32) s)
  else
  f_X8_wordOf_118 (nI 5) s)
  else if v1 = (nI 13) then
  (if ¬ (s.1 76 15) = (1 : Int32) then
  (f_X8_wordOf_133 (-1 : Int32) s)
  else
  f_X8_wordOf_133 (nI 6) s)
  else 
  some ((-1 : Int32), s)
set_option maxRecDepth 20000 in
theorem c_X8_wordOf (Y : zG) (v1 : Int32) (s : zS) : zM Y yX8_wordOf cX8_wordOf 2 (some .int) (zR 0 0) [.ref (zy_a Y 76), .int v1] s zrI (f_X8_wordOf v1 s) := by
  refine zm_start (by decide +kernel) (Nat.le_of_ble_eq_true rfl) ?_
  intro X hY hT hX
  subst hY
  have hX : zx_ok X cX8_wordOf RX8 2 := hX
  show zV X (zq X zrI) 2 0 [(0, .ref (zx_ad X 76)), (1, .int v1)] [] s _
  unfold f_X8_wordOf
  refine zv_iload_n hX dX8_wordOf_0 1 rfl ?_
  refine zv_ite (fun h1_3 => ?_) (fun h1_3 => ?_)
  · refine zv_tabI (tgt := 91) hX dX8_wordOf_1 (nI 3) h1_3 (by decide) (by decide) rfl rfl ?_
    refine zv_aload_n hX dX8_wordOf_91 0 rfl ?_
    refine zv_geti hX wf_X8_158 wc_8 zd_76 zj_76_15 c9_8 zr_76_15 dX8_wordOf_92 ?_
    refine zv_iconst (v := (1 : Int32)) hX dX8_wordOf_95 zi_i_1 ?_
    refine zv_icmp_ne (tgt := 103) hX dX8_wordOf_96 rfl ?_ ?_
    · refine zv_iconst (v := (-1 : Int32)) hX dX8_wordOf_103 zi_i_m1 ?_
      exact zv_sub [] rfl (b_X8_wordOf_104 hX hT (-1 : Int32) s)
    · refine zv_iconst (v := (nI 4)) hX dX8_wordOf_99 zi_i_4 ?_
      refine zv_goto (tgt := 104) hX dX8_wordOf_100 rfl ?_
      exact zv_sub [] rfl (b_X8_wordOf_104 hX hT (nI 4) s)
  refine zv_ite (fun h1_4 => ?_) (fun h1_4 => ?_)
  · refine zv_tabI (tgt := 134) hX dX8_wordOf_1 (nI 4) h1_4 (by decide) (by decide) rfl rfl ?_
    refine zv_iconst (v := (-1 : Int32)) hX dX8_wordOf_134 zi_i_m1 ?_
    exact zv_ireti hX hT dX8_wordOf_135
  refine zv_ite (fun h1_5 => ?_) (fun h1_5 => ?_)
  · refine zv_tabI (tgt := 134) hX dX8_wordOf_1 (nI 5) h1_5 (by decide) (by decide) rfl rfl ?_
    refine zv_iconst (v := (-1 : Int32)) hX dX8_wordOf_134 zi_i_m1 ?_
    exact zv_ireti hX hT dX8_wordOf_135
  refine zv_ite (fun h1_6 => ?_) (fun h1_6 => ?_)
  · refine zv_tabI (tgt := 134) hX dX8_wordOf_1 (nI 6) h1_6 (by decide) (by decide) rfl rfl ?_
    refine zv_iconst (v := (-1 : Int32)) hX dX8_wordOf_134 zi_i_m1 ?_
    exact zv_ireti hX hT dX8_wordOf_135
  refine zv_ite (fun h1_7 => ?_) (fun h1_7 => ?_)
  · refine zv_tabI (tgt := 134) hX dX8_wordOf_1 (nI 7) h1_7 (by decide) (by decide) rfl rfl ?_
    refine zv_iconst (v := (-1 : Int32)) hX dX8_wordOf_134 zi_i_m1 ?_
    exact zv_ireti hX hT dX8_wordOf_135
  refine zv_ite (fun h1_8 => ?_) (fun h1_8 => ?_)
  · refine zv_tabI (tgt := 60) hX dX8_wordOf_1 (nI 8) h1_8 (by decide) (by decide) rfl rfl ?_
    refine zv_iconst (v := (0 : Int32)) hX dX8_wordOf_60 zi_i_0 ?_
    exact zv_ireti hX hT dX8_wordOf_61
  refine zv_ite (fun h1_9 => ?_) (fun h1_9 => ?_)
  · refine zv_tabI (tgt := 62) hX dX8_wordOf_1 (nI 9) h1_9 (by decide) (by decide) rfl rfl ?_
    refine zv_iconst (v := (1 : Int32)) hX dX8_wordOf_62 zi_i_1 ?_
    exact zv_ireti hX hT dX8_wordOf_63
  refine zv_ite (fun h1_10 => ?_) (fun h1_10 => ?_)
  · refine zv_tabI (tgt := 64) hX dX8_wordOf_1 (nI 10) h1_10 (by decide) (by decide) rfl rfl ?_
    refine zv_aload_n hX dX8_wordOf_64 0 rfl ?_
    refine zv_geti hX wf_X8_158 wc_8 zd_76 zj_76_15 c9_8 zr_76_15 dX8_wordOf_65 ?_
    refine zv_if_ne (tgt := 75) hX dX8_wordOf_68 rfl ?_ ?_
    · refine zv_iconst (v := (-1 : Int32)) hX dX8_wordOf_75 zi_i_m1 ?_
      exact zv_sub [] rfl (b_X8_wordOf_76 hX hT (-1 : Int32) s)
    · refine zv_iconst (v := (nI 2)) hX dX8_wordOf_71 zi_i_2 ?_
      refine zv_goto (tgt := 76) hX dX8_wordOf_72 rfl ?_
      exact zv_sub [] rfl (b_X8_wordOf_76 hX hT (nI 2) s)
  refine zv_ite (fun h1_11 => ?_) (fun h1_11 => ?_)
  · refine zv_tabI (tgt := 77) hX dX8_wordOf_1 (nI 11) h1_11 (by decide) (by decide) rfl rfl ?_
    refine zv_aload_n hX dX8_wordOf_77 0 rfl ?_
    refine zv_geti hX wf_X8_158 wc_8 zd_76 zj_76_15 c9_8 zr_76_15 dX8_wordOf_78 ?_
    refine zv_iconst (v := (1 : Int32)) hX dX8_wordOf_81 zi_i_1 ?_
    refine zv_icmp_ne (tgt := 89) hX dX8_wordOf_82 rfl ?_ ?_
    · refine zv_iconst (v := (-1 : Int32)) hX dX8_wordOf_89 zi_i_m1 ?_
      exact zv_sub [] rfl (b_X8_wordOf_90 hX hT (-1 : Int32) s)
    · refine zv_iconst (v := (nI 3)) hX dX8_wordOf_85 zi_i_3 ?_
      refine zv_goto (tgt := 90) hX dX8_wordOf_86 rfl ?_
      exact zv_sub [] rfl (b_X8_wordOf_90 hX hT (nI 3) s)
  refine zv_ite (fun h1_12 => ?_) (fun h1_12 => ?_)
  · refine zv_tabI (tgt := 105) hX dX8_wordOf_1 (nI 12) h1_12 (by decide) (by decide) rfl rfl ?_
    refine zv_aload_n hX dX8_wordOf_105 0 rfl ?_
    refine zv_geti hX wf_X8_158 wc_8 zd_76 zj_76_15 c9_8 zr_76_15 dX8_wordOf_106 ?_
    refine zv_iconst (v := (1 : Int32)) hX dX8_wordOf_109 zi_i_1 ?_
    refine zv_icmp_ne (tgt := 117) hX dX8_wordOf_110 rfl ?_ ?_
    · refine zv_iconst (v := (-1 : Int32)) hX dX8_wordOf_117 zi_i_m1 ?_
      exact zv_sub [] rfl (b_X8_wordOf_118 hX hT (-1 : Int32) s)
    · refine zv_iconst (v := (nI 5)) hX dX8_wordOf_113 zi_i_5 ?_
      refine zv_goto (tgt := 118) hX dX8_wordOf_114 rfl ?_
      exact zv_sub [] rfl (b_X8_wordOf_118 hX hT (nI 5) s)
  refine zv_ite (fun h1_13 => ?_) (fun h1_13 => ?_)
  · refine zv_tabI (tgt := 119) hX dX8_wordOf_1 (nI 13) h1_13 (by decide) (by decide) rfl rfl ?_
    refine zv_aload_n hX dX8_wordOf_119 0 rfl ?_
    refine zv_geti hX wf_X8_158 wc_8 zd_76 zj_76_15 c9_8 zr_76_15 dX8_wordOf_120 ?_
    refine zv_iconst (v := (1 : Int32)) hX dX8_wordOf_123 zi_i_1 ?_
    refine zv_icmp_ne (tgt := 132) hX dX8_wordOf_124 rfl ?_ ?_
    · refine zv_iconst (v := (-1 : Int32)) hX dX8_wordOf_132 zi_i_m1 ?_
      exact zv_sub [] rfl (b_X8_wordOf_133 hX hT (-1 : Int32) s)
    · refine zv_bipush (v := (nI 6)) hX dX8_wordOf_127 zi_b_6 ?_
      refine zv_goto (tgt := 133) hX dX8_wordOf_129 rfl ?_
      exact zv_sub [] rfl (b_X8_wordOf_133 hX hT (nI 6) s)
  refine zv_tabO (tgt := 134) hX dX8_wordOf_1 (zt_out 3 11 (by decide) (fun j hj => by match j, hj with | 0, _ => exact h1_3 | 1, _ => exact h1_4 | 2, _ => exact h1_5 | 3, _ => exact h1_6 | 4, _ => exact h1_7 | 5, _ => exact h1_8 | 6, _ => exact h1_9 | 7, _ => exact h1_10 | 8, _ => exact h1_11 | 9, _ => exact h1_12 | 10, _ => exact h1_13)) rfl ?_
  refine zv_iconst (v := (-1 : Int32)) hX dX8_wordOf_134 zi_i_m1 ?_
  exact zv_ireti hX hT dX8_wordOf_135
