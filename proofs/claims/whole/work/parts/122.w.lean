theorem dX7_count_0 : decode cX7_count 0 = .ok (.iload_n 1, 1) := by decide +kernel
theorem dX7_count_1 : decode cX7_count 1 = .ok (.tableswitch 120 0 7 #[47, 55, 63, 76, 84, 99, 107, 112], 47) := by decide +kernel
theorem dX7_count_48 : decode cX7_count 48 = .ok (.aload_n 0, 1) := by decide +kernel
theorem dX7_count_49 : decode cX7_count 49 = .ok (.getfield 20, 3) := by decide +kernel
theorem dX7_count_52 : decode cX7_count 52 = .ok (.getfield 215, 3) := by decide +kernel
theorem dX7_count_55 : decode cX7_count 55 = .ok (.ireturn, 1) := by decide +kernel
theorem dX7_count_56 : decode cX7_count 56 = .ok (.aload_n 0, 1) := by decide +kernel
theorem dX7_count_57 : decode cX7_count 57 = .ok (.getfield 20, 3) := by decide +kernel
theorem dX7_count_60 : decode cX7_count 60 = .ok (.invokevirtual 186, 3) := by decide +kernel
theorem dX7_count_63 : decode cX7_count 63 = .ok (.ireturn, 1) := by decide +kernel
theorem dX7_count_64 : decode cX7_count 64 = .ok (.aload_n 0, 1) := by decide +kernel
theorem dX7_count_65 : decode cX7_count 65 = .ok (.getfield 20, 3) := by decide +kernel
theorem dX7_count_68 : decode cX7_count 68 = .ok (.invokevirtual 186, 3) := by decide +kernel
theorem dX7_count_71 : decode cX7_count 71 = .ok (.invokestatic 116, 3) := by decide +kernel
theorem dX7_count_74 : decode cX7_count 74 = .ok (.iconst 2, 1) := by decide +kernel
theorem dX7_count_75 : decode cX7_count 75 = .ok (.idiv, 1) := by decide +kernel
theorem dX7_count_76 : decode cX7_count 76 = .ok (.ireturn, 1) := by decide +kernel
theorem dX7_count_77 : decode cX7_count 77 = .ok (.aload_n 0, 1) := by decide +kernel
theorem dX7_count_78 : decode cX7_count 78 = .ok (.getfield 20, 3) := by decide +kernel
theorem dX7_count_81 : decode cX7_count 81 = .ok (.invokevirtual 190, 3) := by decide +kernel
theorem dX7_count_84 : decode cX7_count 84 = .ok (.ireturn, 1) := by decide +kernel
theorem dX7_count_85 : decode cX7_count 85 = .ok (.aload_n 0, 1) := by decide +kernel
theorem dX7_count_86 : decode cX7_count 86 = .ok (.getfield 20, 3) := by decide +kernel
theorem dX7_count_89 : decode cX7_count 89 = .ok (.aload_n 0, 1) := by decide +kernel
theorem dX7_count_90 : decode cX7_count 90 = .ok (.getfield 20, 3) := by decide +kernel
theorem dX7_count_93 : decode cX7_count 93 = .ok (.invokevirtual 208, 3) := by decide +kernel
theorem dX7_count_96 : decode cX7_count 96 = .ok (.invokevirtual 271, 3) := by decide +kernel
theorem dX7_count_99 : decode cX7_count 99 = .ok (.ireturn, 1) := by decide +kernel
theorem dX7_count_100 : decode cX7_count 100 = .ok (.aload_n 0, 1) := by decide +kernel
theorem dX7_count_101 : decode cX7_count 101 = .ok (.getfield 68, 3) := by decide +kernel
theorem dX7_count_104 : decode cX7_count 104 = .ok (.getfield 170, 3) := by decide +kernel
theorem dX7_count_107 : decode cX7_count 107 = .ok (.ireturn, 1) := by decide +kernel
theorem dX7_count_108 : decode cX7_count 108 = .ok (.aload_n 0, 1) := by decide +kernel
theorem dX7_count_109 : decode cX7_count 109 = .ok (.getfield 78, 3) := by decide +kernel
theorem dX7_count_112 : decode cX7_count 112 = .ok (.ireturn, 1) := by decide +kernel
theorem dX7_count_113 : decode cX7_count 113 = .ok (.aload_n 0, 1) := by decide +kernel
theorem dX7_count_114 : decode cX7_count 114 = .ok (.getfield 20, 3) := by decide +kernel
theorem dX7_count_117 : decode cX7_count 117 = .ok (.getfield 99, 3) := by decide +kernel
theorem dX7_count_120 : decode cX7_count 120 = .ok (.ireturn, 1) := by decide +kernel
theorem dX7_count_121 : decode cX7_count 121 = .ok (.iconst (-1), 1) := by decide +kernel
theorem dX7_count_122 : decode cX7_count 122 = .ok (.ireturn, 1) := by decide +kernel
def f_X7_count (v1 : Int32) (s : zS) : Option (Int32 × zS) :=
  if v1 = (0 : Int32) then
  (some (s.1 3 0, s))
  else if v1 = (1 : Int32) then
  (zbd (f_X5_engagedBits_3 s) fun r1 s2 =>
  some (r1, s2))
  else if v1 = (nI 2) then
  (zbd (f_X5_engagedBits_3 s) fun r3 s4 =>
  zbd (f_J6_bitCount_0f7a4 r3 s4) fun r5 s6 =>
  some (r5 / (nI 2), s6))
  else if v1 = (nI 3) then
  (zbd (f_X5_inkOfAll_3 s) fun r7 s8 =>
  some (r7, s8))
  else if v1 = (nI 4) then
  (zbd (f_X5_everybody_3 s) fun r9 s10 =>
  zbd (f_X5_oddsOfSet_3 r9 s10) fun r11 s12 =>
  some (r11, s12))
  else if v1 = (nI 5) then
  (some (s.1 73 3, s))
  else if v1 = (nI 6) then
  (some (s.1 0 1, s))
  else if v1 = (nI 7) then
  (some (s.1 3 1, s))
  else 
  some ((-1 : Int32), s)
set_option maxRecDepth 20000 in
theorem c_X7_count (Y : zG) (v1 : Int32) (s : zS) : zM Y yX7_count cX7_count 2 (some .int) (zR 3 63) [.ref (zy_a Y 0), .int v1] s zrI (f_X7_count v1 s) := by
  refine zm_start (by decide +kernel) (Nat.le_of_ble_eq_true rfl) ?_
  intro X hY hT hX
  subst hY
  have hX : zx_ok X cX7_count RX7 2 := hX
  show zV X (zq X zrI) 2 0 [(0, .ref (zx_ad X 0)), (1, .int v1)] [] s _
  unfold f_X7_count
  refine zv_iload_n hX dX7_count_0 1 rfl ?_
  refine zv_ite (fun h1_0 => ?_) (fun h1_0 => ?_)
  · refine zv_tabI (tgt := 48) hX dX7_count_1 (0 : Int32) h1_0 (by decide) (by decide) rfl rfl ?_
    refine zv_aload_n hX dX7_count_48 0 rfl ?_
    refine zv_geta hX wf_X7_20 wc_7 zd_0 zj_0_2 c9_7 zr_0_2 (by decide) dX7_count_49 ?_
    refine zv_geti hX wf_X7_215 wc_5 zd_3 zj_3_0 c9_5 zr_3_0 dX7_count_52 ?_
    exact zv_ireti hX hT dX7_count_55
  refine zv_ite (fun h1_1 => ?_) (fun h1_1 => ?_)
  · refine zv_tabI (tgt := 56) hX dX7_count_1 (1 : Int32) h1_1 (by decide) (by decide) rfl rfl ?_
    refine zv_aload_n hX dX7_count_56 0 rfl ?_
    refine zv_geta hX wf_X7_20 wc_7 zd_0 zj_0_2 c9_7 zr_0_2 (by decide) dX7_count_57 ?_
    refine zv_cVI [] (rest := []) hX hT.2.2.2.2 (c_X5_engagedBits_3 (zx_Y X) s) wv_X5_engagedBits c9_5 zd_3 wm_X7_186 rfl (Nat.le_of_ble_eq_true rfl) (Nat.le_of_ble_eq_true rfl) rfl (Nat.le_of_ble_eq_true rfl) dX7_count_60 (fun r1 s2 => ?_)
    exact zv_ireti hX hT dX7_count_63
  refine zv_ite (fun h1_2 => ?_) (fun h1_2 => ?_)
  · refine zv_tabI (tgt := 64) hX dX7_count_1 (nI 2) h1_2 (by decide) (by decide) rfl rfl ?_
    refine zv_aload_n hX dX7_count_64 0 rfl ?_
    refine zv_geta hX wf_X7_20 wc_7 zd_0 zj_0_2 c9_7 zr_0_2 (by decide) dX7_count_65 ?_
    refine zv_cVI [] (rest := []) hX hT.2.2.2.2 (c_X5_engagedBits_3 (zx_Y X) s) wv_X5_engagedBits c9_5 zd_3 wm_X7_186 rfl (Nat.le_of_ble_eq_true rfl) (Nat.le_of_ble_eq_true rfl) rfl (Nat.le_of_ble_eq_true rfl) dX7_count_68 (fun r3 s4 => ?_)
    refine zv_cSI [.int r3] (rest := []) hX hT.2.2.2.2 (c_J6_bitCount_0f7a4 (zx_Y X) r3 s4) wv_J6_bitCount_0f7a4 wm_X7_116 rfl (Nat.le_of_ble_eq_true rfl) (Nat.le_of_ble_eq_true rfl) rfl (Nat.le_of_ble_eq_true rfl) dX7_count_71 (fun r5 s6 => ?_)
    refine zv_iconst (v := (nI 2)) hX dX7_count_74 zi_i_2 ?_
    refine zv_idiv hX dX7_count_75 (by decide) ?_
    exact zv_ireti hX hT dX7_count_76
  refine zv_ite (fun h1_3 => ?_) (fun h1_3 => ?_)
  · refine zv_tabI (tgt := 77) hX dX7_count_1 (nI 3) h1_3 (by decide) (by decide) rfl rfl ?_
    refine zv_aload_n hX dX7_count_77 0 rfl ?_
    refine zv_geta hX wf_X7_20 wc_7 zd_0 zj_0_2 c9_7 zr_0_2 (by decide) dX7_count_78 ?_
    refine zv_cVI [] (rest := []) hX hT.2.2.2.2 (c_X5_inkOfAll_3 (zx_Y X) s) wv_X5_inkOfAll c9_5 zd_3 wm_X7_190 rfl (Nat.le_of_ble_eq_true rfl) (Nat.le_of_ble_eq_true rfl) rfl (Nat.le_of_ble_eq_true rfl) dX7_count_81 (fun r7 s8 => ?_)
    exact zv_ireti hX hT dX7_count_84
  refine zv_ite (fun h1_4 => ?_) (fun h1_4 => ?_)
  · refine zv_tabI (tgt := 85) hX dX7_count_1 (nI 4) h1_4 (by decide) (by decide) rfl rfl ?_
    refine zv_aload_n hX dX7_count_85 0 rfl ?_
    refine zv_geta hX wf_X7_20 wc_7 zd_0 zj_0_2 c9_7 zr_0_2 (by decide) dX7_count_86 ?_
    refine zv_aload_n hX dX7_count_89 0 rfl ?_
    refine zv_geta hX wf_X7_20 wc_7 zd_0 zj_0_2 c9_7 zr_0_2 (by decide) dX7_count_90 ?_
    refine zv_cVI [] (rest := [.ref (zx_ad X 3)]) hX hT.2.2.2.2 (c_X5_everybody_3 (zx_Y X) s) wv_X5_everybody c9_5 zd_3 wm_X7_208 rfl (Nat.le_of_ble_eq_true rfl) (Nat.le_of_ble_eq_true rfl) rfl (Nat.le_of_ble_eq_true rfl) dX7_count_93 (fun r9 s10 => ?_)
    refine zv_cVI [.int r9] (rest := []) hX hT.2.2.2.2 (c_X5_oddsOfSet_3 (zx_Y X) r9 s10) wv_X5_oddsOfSet c9_5 zd_3 wm_X7_271 rfl (Nat.le_of_ble_eq_true rfl) (Nat.le_of_ble_eq_true rfl) rfl (Nat.le_of_ble_eq_true rfl) dX7_count_96 (fun r11 s12 => ?_)
    exact zv_ireti hX hT dX7_count_99
  refine zv_ite (fun h1_5 => ?_) (fun h1_5 => ?_)
  · refine zv_tabI (tgt := 100) hX dX7_count_1 (nI 5) h1_5 (by decide) (by decide) rfl rfl ?_
    refine zv_aload_n hX dX7_count_100 0 rfl ?_
    refine zv_geta hX wf_X7_68 wc_7 zd_0 zj_0_7 c9_7 zr_0_7 (by decide) dX7_count_101 ?_
    refine zv_geti hX wf_X7_170 wc_2 zd_73 zj_73_3 c9_2 zr_73_3 dX7_count_104 ?_
    exact zv_ireti hX hT dX7_count_107
  refine zv_ite (fun h1_6 => ?_) (fun h1_6 => ?_)
  · refine zv_tabI (tgt := 108) hX dX7_count_1 (nI 6) h1_6 (by decide) (by decide) rfl rfl ?_
    refine zv_aload_n hX dX7_count_108 0 rfl ?_
    refine zv_geti hX wf_X7_78 wc_7 zd_0 zj_0_1 c9_7 zr_0_1 dX7_count_109 ?_
    exact zv_ireti hX hT dX7_count_112
  refine zv_ite (fun h1_7 => ?_) (fun h1_7 => ?_)
  · refine zv_tabI (tgt := 113) hX dX7_count_1 (nI 7) h1_7 (by decide) (by decide) rfl rfl ?_
    refine zv_aload_n hX dX7_count_113 0 rfl ?_
    refine zv_geta hX wf_X7_20 wc_7 zd_0 zj_0_2 c9_7 zr_0_2 (by decide) dX7_count_114 ?_
    refine zv_geti hX wf_X7_99 wc_5 zd_3 zj_3_1 c9_5 zr_3_1 dX7_count_117 ?_
    exact zv_ireti hX hT dX7_count_120
  refine zv_tabO (tgt := 121) hX dX7_count_1 (zt_out 0 8 (by decide) (fun j hj => by match j, hj with | 0, _ => exact h1_0 | 1, _ => exact h1_1 | 2, _ => exact h1_2 | 3, _ => exact h1_3 | 4, _ => exact h1_4 | 5, _ => exact h1_5 | 6, _ => exact h1_6 | 7, _ => exact h1_7)) rfl ?_
  refine zv_iconst (v := (-1 : Int32)) hX dX7_count_121 zi_i_m1 ?_
  exact zv_ireti hX hT dX7_count_122
theorem dX7_crosses_0 : decode cX7_crosses 0 = .ok (.aload_n 0, 1) := by decide +kernel
theorem dX7_crosses_1 : decode cX7_crosses 1 = .ok (.getfield 20, 3) := by decide +kernel
theorem dX7_crosses_4 : decode cX7_crosses 4 = .ok (.iload_n 1, 1) := by decide +kernel
theorem dX7_crosses_5 : decode cX7_crosses 5 = .ok (.iload_n 2, 1) := by decide +kernel
theorem dX7_crosses_6 : decode cX7_crosses 6 = .ok (.invokevirtual 137, 3) := by decide +kernel
theorem dX7_crosses_9 : decode cX7_crosses 9 = .ok (.ifCond .eq 15, 3) := by decide +kernel
theorem dX7_crosses_12 : decode cX7_crosses 12 = .ok (.aload_n 0, 1) := by decide +kernel
theorem dX7_crosses_13 : decode cX7_crosses 13 = .ok (.getfield 36, 3) := by decide +kernel
theorem dX7_crosses_16 : decode cX7_crosses 16 = .ok (.iload_n 1, 1) := by decide +kernel
theorem dX7_crosses_17 : decode cX7_crosses 17 = .ok (.iload_n 2, 1) := by decide +kernel
theorem dX7_crosses_18 : decode cX7_crosses 18 = .ok (.invokevirtual 141, 3) := by decide +kernel
theorem dX7_crosses_21 : decode cX7_crosses 21 = .ok (.goto 5, 3) := by decide +kernel
theorem dX7_crosses_24 : decode cX7_crosses 24 = .ok (.bipush (-2), 2) := by decide +kernel
theorem dX7_crosses_26 : decode cX7_crosses 26 = .ok (.ireturn, 1) := by decide +kernel
def f_X7_crosses_26 (w0 : Int32) (s : zS) : Option (Int32 × zS) :=
  some (w0, s)
set_option maxRecDepth 20000 in
theorem b_X7_crosses_26 {X : zX} (hX : zx_ok X cX7_crosses RX7 3) (hT : zx_rt X (some .int) (zR 2 51)) : ∀ (w0 : Int32) (s : zS), zV X (zq X zrI) 3 26 [] [.int w0] s (f_X7_crosses_26 w0 s) := by
  intro w0 s
  unfold f_X7_crosses_26
  exact zv_ireti hX hT dX7_crosses_26
def f_X7_crosses (v1 : Int32) (v2 : Int32) (s : zS) : Option (Int32 × zS) :=
  zbd (f_X5_areTwo_3 v1 v2 s) fun r1 s2 =>
  if r1 = 0 then
  (f_X7_crosses_26 (-2 : Int32) s2)
  else
  zbd (f_X4_fewestOf v1 v2 s2) fun r3 s4 =>
  f_X7_crosses_26 r3 s4
set_option maxRecDepth 20000 in
theorem c_X7_crosses (Y : zG) (v1 : Int32) (v2 : Int32) (s : zS) : zM Y yX7_crosses cX7_crosses 3 (some .int) (zR 2 51) [.ref (zy_a Y 0), .int v1, .int v2] s zrI (f_X7_crosses v1 v2 s) := by
  refine zm_start (by decide +kernel) (Nat.le_of_ble_eq_true rfl) ?_
  intro X hY hT hX
  subst hY
  have hX : zx_ok X cX7_crosses RX7 3 := hX
  show zV X (zq X zrI) 3 0 [(0, .ref (zx_ad X 0)), (1, .int v1), (2, .int v2)] [] s _
  unfold f_X7_crosses
  refine zv_aload_n hX dX7_crosses_0 0 rfl ?_
  refine zv_geta hX wf_X7_20 wc_7 zd_0 zj_0_2 c9_7 zr_0_2 (by decide) dX7_crosses_1 ?_
  refine zv_iload_n hX dX7_crosses_4 1 rfl ?_
  refine zv_iload_n hX dX7_crosses_5 2 rfl ?_
  refine zv_cVI [.int v1, .int v2] (rest := []) hX hT.2.2.2.2 (c_X5_areTwo_3 (zx_Y X) v1 v2 s) wv_X5_areTwo c9_5 zd_3 wm_X7_137 rfl (Nat.le_of_ble_eq_true rfl) (Nat.le_of_ble_eq_true rfl) rfl (Nat.le_of_ble_eq_true rfl) dX7_crosses_6 (fun r1 s2 => ?_)
  refine zv_if_eq (tgt := 24) hX dX7_crosses_9 rfl ?_ ?_
  · refine zv_bipush (v := (-2 : Int32)) hX dX7_crosses_24 zi_b_m2 ?_
    exact zv_sub [] rfl (b_X7_crosses_26 hX hT (-2 : Int32) s2)
  · refine zv_aload_n hX dX7_crosses_12 0 rfl ?_
    refine zv_geta hX wf_X7_36 wc_7 zd_0 zj_0_4 c9_7 zr_0_4 (by decide) dX7_crosses_13 ?_
    refine zv_iload_n hX dX7_crosses_16 1 rfl ?_
    refine zv_iload_n hX dX7_crosses_17 2 rfl ?_
    refine zv_cVI [.int v1, .int v2] (rest := []) hX hT.2.2.2.2 (c_X4_fewestOf (zx_Y X) v1 v2 s2) wv_X4_fewestOf c9_4 zd_42 wm_X7_141 rfl (Nat.le_of_ble_eq_true rfl) (Nat.le_of_ble_eq_true rfl) rfl (Nat.le_of_ble_eq_true rfl) dX7_crosses_18 (fun r3 s4 => ?_)
    refine zv_goto (tgt := 26) hX dX7_crosses_21 rfl ?_
    exact zv_sub [] rfl (b_X7_crosses_26 hX hT r3 s4)
theorem dX7_engage_0 : decode cX7_engage 0 = .ok (.aload_n 0, 1) := by decide +kernel
theorem dX7_engage_1 : decode cX7_engage 1 = .ok (.getfield 68, 3) := by decide +kernel
theorem dX7_engage_4 : decode cX7_engage 4 = .ok (.invokevirtual 149, 3) := by decide +kernel
theorem dX7_engage_7 : decode cX7_engage 7 = .ok (.aload_n 0, 1) := by decide +kernel
theorem dX7_engage_8 : decode cX7_engage 8 = .ok (.getfield 61, 3) := by decide +kernel
theorem dX7_engage_11 : decode cX7_engage 11 = .ok (.iload_n 1, 1) := by decide +kernel
theorem dX7_engage_12 : decode cX7_engage 12 = .ok (.iload_n 2, 1) := by decide +kernel
theorem dX7_engage_13 : decode cX7_engage 13 = .ok (.invokevirtual 152, 3) := by decide +kernel
theorem dX7_engage_16 : decode cX7_engage 16 = .ok (.istore_n 3, 1) := by decide +kernel
theorem dX7_engage_17 : decode cX7_engage 17 = .ok (.iload_n 3, 1) := by decide +kernel
theorem dX7_engage_18 : decode cX7_engage 18 = .ok (.ifCond .eq 8, 3) := by decide +kernel
theorem dX7_engage_21 : decode cX7_engage 21 = .ok (.bipush (-10), 2) := by decide +kernel
theorem dX7_engage_23 : decode cX7_engage 23 = .ok (.iload_n 3, 1) := by decide +kernel
theorem dX7_engage_24 : decode cX7_engage 24 = .ok (.isub, 1) := by decide +kernel
theorem dX7_engage_25 : decode cX7_engage 25 = .ok (.ireturn, 1) := by decide +kernel
theorem dX7_engage_26 : decode cX7_engage 26 = .ok (.aload_n 0, 1) := by decide +kernel
theorem dX7_engage_27 : decode cX7_engage 27 = .ok (.getfield 68, 3) := by decide +kernel
theorem dX7_engage_30 : decode cX7_engage 30 = .ok (.invokevirtual 155, 3) := by decide +kernel
theorem dX7_engage_33 : decode cX7_engage 33 = .ok (.aload_n 0, 1) := by decide +kernel
theorem dX7_engage_34 : decode cX7_engage 34 = .ok (.getfield 61, 3) := by decide +kernel
theorem dX7_engage_37 : decode cX7_engage 37 = .ok (.getfield 158, 3) := by decide +kernel
theorem dX7_engage_40 : decode cX7_engage 40 = .ok (.ireturn, 1) := by decide +kernel
def f_X7_engage (v1 : Int32) (v2 : Int32) (s : zS) : Option (Int32 × zS) :=
  zbd (f_X2_hold s) fun _ s1 =>
  zbd (f_X1_tryEngage v1 v2 s1) fun r2 s3 =>
  if r2 = 0 then
  (zbd (f_X2_keep s3) fun _ s4 =>
  some (s4.1 72 3, s4))
  else
  some ((-10 : Int32) - r2, s3)
set_option maxRecDepth 20000 in
theorem c_X7_engage (Y : zG) (v1 : Int32) (v2 : Int32) (s : zS) : zM Y yX7_engage cX7_engage 4 (some .int) (zR 5 122) [.ref (zy_a Y 0), .int v1, .int v2] s zrI (f_X7_engage v1 v2 s) := by
  refine zm_start (by decide +kernel) (Nat.le_of_ble_eq_true rfl) ?_
  intro X hY hT hX
  subst hY
  have hX : zx_ok X cX7_engage RX7 4 := hX
  show zV X (zq X zrI) 4 0 [(0, .ref (zx_ad X 0)), (1, .int v1), (2, .int v2)] [] s _
  unfold f_X7_engage
  refine zv_aload_n hX dX7_engage_0 0 rfl ?_
  refine zv_geta hX wf_X7_68 wc_7 zd_0 zj_0_7 c9_7 zr_0_7 (by decide) dX7_engage_1 ?_
  refine zv_cVV [] (rest := []) hX hT.2.2.2.2 (c_X2_hold (zx_Y X) s) wv_X2_hold c9_2 zd_73 wm_X7_149 rfl (Nat.le_of_ble_eq_true rfl) (Nat.le_of_ble_eq_true rfl) rfl (Nat.le_of_ble_eq_true rfl) dX7_engage_4 (fun _ s1 => ?_)
  refine zv_aload_n hX dX7_engage_7 0 rfl ?_
  refine zv_geta hX wf_X7_61 wc_7 zd_0 zj_0_6 c9_7 zr_0_6 (by decide) dX7_engage_8 ?_
  refine zv_iload_n hX dX7_engage_11 1 rfl ?_
  refine zv_iload_n hX dX7_engage_12 2 rfl ?_
  refine zv_cVI [.int v1, .int v2] (rest := []) hX hT.2.2.2.2 (c_X1_tryEngage (zx_Y X) v1 v2 s1) wv_X1_tryEngage c9_1 zd_72 wm_X7_152 rfl (Nat.le_of_ble_eq_true rfl) (Nat.le_of_ble_eq_true rfl) rfl (Nat.le_of_ble_eq_true rfl) dX7_engage_13 (fun r2 s3 => ?_)
  refine zv_istore_n (lv' := [(3, .int r2), (0, .ref (zx_ad X 0)), (1, .int v1), (2, .int v2)]) hX dX7_engage_16 (by decide) rfl ?_
  refine zv_iload_n hX dX7_engage_17 0 rfl ?_
  refine zv_if_eq (tgt := 26) hX dX7_engage_18 rfl ?_ ?_
  · refine zv_aload_n hX dX7_engage_26 1 rfl ?_
    refine zv_geta hX wf_X7_68 wc_7 zd_0 zj_0_7 c9_7 zr_0_7 (by decide) dX7_engage_27 ?_
    refine zv_cVV [] (rest := []) hX hT.2.2.2.2 (c_X2_keep (zx_Y X) s3) wv_X2_keep c9_2 zd_73 wm_X7_155 rfl (Nat.le_of_ble_eq_true rfl) (Nat.le_of_ble_eq_true rfl) rfl (Nat.le_of_ble_eq_true rfl) dX7_engage_30 (fun _ s4 => ?_)
    refine zv_aload_n hX dX7_engage_33 1 rfl ?_
    refine zv_geta hX wf_X7_61 wc_7 zd_0 zj_0_6 c9_7 zr_0_6 (by decide) dX7_engage_34 ?_
    refine zv_geti hX wf_X7_158 wc_1 zd_72 zj_72_3 c9_1 zr_72_3 dX7_engage_37 ?_
    exact zv_ireti hX hT dX7_engage_40
  · refine zv_bipush (v := (-10 : Int32)) hX dX7_engage_21 zi_b_m10 ?_
    refine zv_iload_n hX dX7_engage_23 0 rfl ?_
    refine zv_isub hX dX7_engage_24 ?_
    exact zv_ireti hX hT dX7_engage_25
theorem dX7_fault_0 : decode cX7_fault 0 = .ok (.iload_n 1, 1) := by decide +kernel
theorem dX7_fault_1 : decode cX7_fault 1 = .ok (.ifCond .ne 11, 3) := by decide +kernel
theorem dX7_fault_4 : decode cX7_fault 4 = .ok (.aload_n 0, 1) := by decide +kernel
theorem dX7_fault_5 : decode cX7_fault 5 = .ok (.getfield 27, 3) := by decide +kernel
theorem dX7_fault_8 : decode cX7_fault 8 = .ok (.getfield 102, 3) := by decide +kernel
theorem dX7_fault_11 : decode cX7_fault 11 = .ok (.ireturn, 1) := by decide +kernel
theorem dX7_fault_12 : decode cX7_fault 12 = .ok (.iload_n 1, 1) := by decide +kernel
theorem dX7_fault_13 : decode cX7_fault 13 = .ok (.iconst 1, 1) := by decide +kernel
theorem dX7_fault_14 : decode cX7_fault 14 = .ok (.if_icmp .ne 13, 3) := by decide +kernel
theorem dX7_fault_17 : decode cX7_fault 17 = .ok (.aload_n 0, 1) := by decide +kernel
theorem dX7_fault_18 : decode cX7_fault 18 = .ok (.getfield 27, 3) := by decide +kernel
theorem dX7_fault_21 : decode cX7_fault 21 = .ok (.getfield 105, 3) := by decide +kernel
theorem dX7_fault_24 : decode cX7_fault 24 = .ok (.goto 4, 3) := by decide +kernel
theorem dX7_fault_27 : decode cX7_fault 27 = .ok (.iconst (-1), 1) := by decide +kernel
theorem dX7_fault_28 : decode cX7_fault 28 = .ok (.ireturn, 1) := by decide +kernel
def f_X7_fault_28 (w0 : Int32) (s : zS) : Option (Int32 × zS) :=
  some (w0, s)
set_option maxRecDepth 20000 in
theorem b_X7_fault_28 {X : zX} (hX : zx_ok X cX7_fault RX7 2) (hT : zx_rt X (some .int) (zR 0 0)) : ∀ (w0 : Int32) (s : zS), zV X (zq X zrI) 2 28 [] [.int w0] s (f_X7_fault_28 w0 s) := by
  intro w0 s
  unfold f_X7_fault_28
  exact zv_ireti hX hT dX7_fault_28
def f_X7_fault (v1 : Int32) (s : zS) : Option (Int32 × zS) :=
  if ¬ v1 = 0 then
  (if ¬ v1 = (1 : Int32) then
  (f_X7_fault_28 (-1 : Int32) s)
  else
  f_X7_fault_28 (s.1 30 2) s)
  else
  some (s.1 30 1, s)
set_option maxRecDepth 20000 in
theorem c_X7_fault (Y : zG) (v1 : Int32) (s : zS) : zM Y yX7_fault cX7_fault 2 (some .int) (zR 0 0) [.ref (zy_a Y 0), .int v1] s zrI (f_X7_fault v1 s) := by
  refine zm_start (by decide +kernel) (Nat.le_of_ble_eq_true rfl) ?_
  intro X hY hT hX
  subst hY
  have hX : zx_ok X cX7_fault RX7 2 := hX
  show zV X (zq X zrI) 2 0 [(0, .ref (zx_ad X 0)), (1, .int v1)] [] s _
  unfold f_X7_fault
  refine zv_iload_n hX dX7_fault_0 1 rfl ?_
  refine zv_if_ne (tgt := 12) hX dX7_fault_1 rfl ?_ ?_
  · refine zv_iload_n hX dX7_fault_12 1 rfl ?_
    refine zv_iconst (v := (1 : Int32)) hX dX7_fault_13 zi_i_1 ?_
    refine zv_icmp_ne (tgt := 27) hX dX7_fault_14 rfl ?_ ?_
    · refine zv_iconst (v := (-1 : Int32)) hX dX7_fault_27 zi_i_m1 ?_
      exact zv_sub [] rfl (b_X7_fault_28 hX hT (-1 : Int32) s)
    · refine zv_aload_n hX dX7_fault_17 0 rfl ?_
      refine zv_geta hX wf_X7_27 wc_7 zd_0 zj_0_3 c9_7 zr_0_3 (by decide) dX7_fault_18 ?_
      refine zv_geti hX wf_X7_105 wc_3 zd_30 zj_30_2 c9_3 zr_30_2 dX7_fault_21 ?_
      refine zv_goto (tgt := 28) hX dX7_fault_24 rfl ?_
      exact zv_sub [] rfl (b_X7_fault_28 hX hT (s.1 30 2) s)
  · refine zv_aload_n hX dX7_fault_4 0 rfl ?_
    refine zv_geta hX wf_X7_27 wc_7 zd_0 zj_0_3 c9_7 zr_0_3 (by decide) dX7_fault_5 ?_
    refine zv_geti hX wf_X7_102 wc_3 zd_30 zj_30_1 c9_3 zr_30_1 dX7_fault_8 ?_
    exact zv_ireti hX hT dX7_fault_11
theorem dX7_putBytes_0 : decode cX7_putBytes 0 = .ok (.iconst 0, 1) := by decide +kernel
theorem dX7_putBytes_1 : decode cX7_putBytes 1 = .ok (.istore_n 3, 1) := by decide +kernel
theorem dX7_putBytes_2 : decode cX7_putBytes 2 = .ok (.iload_n 3, 1) := by decide +kernel
theorem dX7_putBytes_3 : decode cX7_putBytes 3 = .ok (.iconst 4, 1) := by decide +kernel
theorem dX7_putBytes_4 : decode cX7_putBytes 4 = .ok (.if_icmp .ge 36, 3) := by decide +kernel
theorem dX7_putBytes_7 : decode cX7_putBytes 7 = .ok (.iload_n 1, 1) := by decide +kernel
theorem dX7_putBytes_8 : decode cX7_putBytes 8 = .ok (.iload_n 3, 1) := by decide +kernel
theorem dX7_putBytes_9 : decode cX7_putBytes 9 = .ok (.iadd, 1) := by decide +kernel
theorem dX7_putBytes_10 : decode cX7_putBytes 10 = .ok (.sipush 900, 3) := by decide +kernel
theorem dX7_putBytes_13 : decode cX7_putBytes 13 = .ok (.if_icmp .ge 27, 3) := by decide +kernel
theorem dX7_putBytes_16 : decode cX7_putBytes 16 = .ok (.aload_n 0, 1) := by decide +kernel
theorem dX7_putBytes_17 : decode cX7_putBytes 17 = .ok (.getfield 9, 3) := by decide +kernel
theorem dX7_putBytes_20 : decode cX7_putBytes 20 = .ok (.iload_n 1, 1) := by decide +kernel
theorem dX7_putBytes_21 : decode cX7_putBytes 21 = .ok (.iload_n 3, 1) := by decide +kernel
theorem dX7_putBytes_22 : decode cX7_putBytes 22 = .ok (.iadd, 1) := by decide +kernel
theorem dX7_putBytes_23 : decode cX7_putBytes 23 = .ok (.iload_n 2, 1) := by decide +kernel
theorem dX7_putBytes_24 : decode cX7_putBytes 24 = .ok (.bipush 24, 2) := by decide +kernel
theorem dX7_putBytes_26 : decode cX7_putBytes 26 = .ok (.bipush 8, 2) := by decide +kernel
theorem dX7_putBytes_28 : decode cX7_putBytes 28 = .ok (.iload_n 3, 1) := by decide +kernel
theorem dX7_putBytes_29 : decode cX7_putBytes 29 = .ok (.imul, 1) := by decide +kernel
theorem dX7_putBytes_30 : decode cX7_putBytes 30 = .ok (.isub, 1) := by decide +kernel
theorem dX7_putBytes_31 : decode cX7_putBytes 31 = .ok (.iushr, 1) := by decide +kernel
theorem dX7_putBytes_32 : decode cX7_putBytes 32 = .ok (.i2b, 1) := by decide +kernel
theorem dX7_putBytes_33 : decode cX7_putBytes 33 = .ok (.bastore, 1) := by decide +kernel
theorem dX7_putBytes_34 : decode cX7_putBytes 34 = .ok (.iinc 3 1, 3) := by decide +kernel
theorem dX7_putBytes_37 : decode cX7_putBytes 37 = .ok (.goto (-35), 3) := by decide +kernel
theorem dX7_putBytes_40 : decode cX7_putBytes 40 = .ok (.return_, 1) := by decide +kernel
def f_X7_putBytes_40  (s : zS) : Option (Unit × zS) :=
  some ((), s)
set_option maxRecDepth 20000 in
theorem b_X7_putBytes_40 {X : zX} (hX : zx_ok X cX7_putBytes RX7 4) (hT : zx_rt X none (zR 0 0)) : ∀  (s : zS), zV X (zq X zrV) 4 40 [] [] s (f_X7_putBytes_40  s) := by
  intro  s
  unfold f_X7_putBytes_40
  exact zv_vret hX hT dX7_putBytes_40
def f_X7_putBytes_2 : Nat → Int32 → Int32 → Int32 → zS → Option (Unit × zS)
  | 0, _, _, _, _ => none
  | n + 1, v1, v2, v3, s =>
    if (nI 4) ≤ v3 then
    (f_X7_putBytes_40 s)
    else
    if (nI 900) ≤ (v1 + v3) then
    (f_X7_putBytes_40 s)
    else
    (zw_b s 1 (v1 + v3) ((zo_ush v2 ((nI 24) - ((nI 8) * v3))).toInt8.toInt32)).bind fun s1 =>
    zb (v3 + (1 : Int32)) fun x2 =>
    f_X7_putBytes_2 n v1 v2 x2 s1
set_option maxRecDepth 20000 in
theorem b_X7_putBytes_2 {X : zX} (hX : zx_ok X cX7_putBytes RX7 4) (hT : zx_rt X none (zR 0 0)) : ∀ (n : Nat) (v1 : Int32) (v2 : Int32) (v3 : Int32) (s : zS), zV X (zq X zrV) 4 2 [(0, .ref (zx_ad X 0)), (1, .int v1), (2, .int v2), (3, .int v3)] [] s (f_X7_putBytes_2 n v1 v2 v3 s) := by
  intro n
  induction n with
  | zero => intro v1 v2 v3 s; exact zv_none
  | succ n ih =>
    intro v1 v2 v3 s
    rw [f_X7_putBytes_2]
    refine zv_iload_n hX dX7_putBytes_2 3 rfl ?_
    refine zv_iconst (v := (nI 4)) hX dX7_putBytes_3 zi_i_4 ?_
    refine zv_icmp_ge (tgt := 40) hX dX7_putBytes_4 rfl ?_ ?_
    · exact zv_sub [] rfl (b_X7_putBytes_40 hX hT  s)
    · refine zv_iload_n hX dX7_putBytes_7 1 rfl ?_
      refine zv_iload_n hX dX7_putBytes_8 3 rfl ?_
      refine zv_iadd hX dX7_putBytes_9 ?_
      refine zv_sipush (v := (nI 900)) hX dX7_putBytes_10 zi_s_900 ?_
      refine zv_icmp_ge (tgt := 40) hX dX7_putBytes_13 rfl ?_ ?_
      · exact zv_sub [] rfl (b_X7_putBytes_40 hX hT  s)
      · refine zv_aload_n hX dX7_putBytes_16 0 rfl ?_
        refine zv_geta hX wf_X7_9 wc_7 zd_0 zj_0_0 c9_7 zr_0_0 (by decide) dX7_putBytes_17 ?_
        refine zv_iload_n hX dX7_putBytes_20 1 rfl ?_
        refine zv_iload_n hX dX7_putBytes_21 3 rfl ?_
        refine zv_iadd hX dX7_putBytes_22 ?_
        refine zv_iload_n hX dX7_putBytes_23 2 rfl ?_
        refine zv_bipush (v := (nI 24)) hX dX7_putBytes_24 zi_b_24 ?_
        refine zv_bipush (v := (nI 8)) hX dX7_putBytes_26 zi_b_8 ?_
        refine zv_iload_n hX dX7_putBytes_28 3 rfl ?_
        refine zv_imul hX dX7_putBytes_29 ?_
        refine zv_isub hX dX7_putBytes_30 ?_
        refine zv_iushr hX dX7_putBytes_31 ?_
        refine zv_i2b hX dX7_putBytes_32 ?_
        refine zv_bast hX dX7_putBytes_33 (fun s1 => ?_)
        refine zv_iincB (lw := fun x2 => [(3, .int x2), (0, .ref (zx_ad X 0)), (1, .int v1), (2, .int v2)]) hX dX7_putBytes_34 3 rfl zi_i_1 (by decide) (fun _ => rfl) (fun x2 => ?_)
        refine zv_goto (tgt := 2) hX dX7_putBytes_37 rfl ?_
        exact zv_sub [1, 2, 3, 0] rfl (ih v1 v2 x2 s1)
def f_X7_putBytes (v1 : Int32) (v2 : Int32) (s : zS) : Option (Unit × zS) :=
  f_X7_putBytes_2 zFU v1 v2 (0 : Int32) s
set_option maxRecDepth 20000 in
theorem c_X7_putBytes (Y : zG) (v1 : Int32) (v2 : Int32) (s : zS) : zM Y yX7_putBytes cX7_putBytes 4 none (zR 0 0) [.ref (zy_a Y 0), .int v1, .int v2] s zrV (f_X7_putBytes v1 v2 s) := by
  refine zm_start (by decide +kernel) (Nat.le_of_ble_eq_true rfl) ?_
  intro X hY hT hX
  subst hY
  have hX : zx_ok X cX7_putBytes RX7 4 := hX
  show zV X (zq X zrV) 4 0 [(0, .ref (zx_ad X 0)), (1, .int v1), (2, .int v2)] [] s _
  unfold f_X7_putBytes
  refine zv_iconst (v := (0 : Int32)) hX dX7_putBytes_0 zi_i_0 ?_
  refine zv_istore_n (lv' := [(3, .int (0 : Int32)), (0, .ref (zx_ad X 0)), (1, .int v1), (2, .int v2)]) hX dX7_putBytes_1 (by decide) rfl ?_
  exact zv_sub [1, 2, 3, 0] rfl (b_X7_putBytes_2 hX hT zFU v1 v2 (0 : Int32) s)
theorem dX7_feed_0 : decode cX7_feed 0 = .ok (.aload_n 0, 1) := by decide +kernel
theorem dX7_feed_1 : decode cX7_feed 1 = .ok (.getfield 78, 3) := by decide +kernel
theorem dX7_feed_4 : decode cX7_feed 4 = .ok (.bipush 20, 2) := by decide +kernel
theorem dX7_feed_6 : decode cX7_feed 6 = .ok (.iadd, 1) := by decide +kernel
theorem dX7_feed_7 : decode cX7_feed 7 = .ok (.sipush 900, 3) := by decide +kernel
theorem dX7_feed_10 : decode cX7_feed 10 = .ok (.if_icmp .le 6, 3) := by decide +kernel
theorem dX7_feed_13 : decode cX7_feed 13 = .ok (.bipush (-5), 2) := by decide +kernel
theorem dX7_feed_15 : decode cX7_feed 15 = .ok (.ireturn, 1) := by decide +kernel
theorem dX7_feed_16 : decode cX7_feed 16 = .ok (.aload_n 0, 1) := by decide +kernel
theorem dX7_feed_17 : decode cX7_feed 17 = .ok (.aload_n 0, 1) := by decide +kernel
theorem dX7_feed_18 : decode cX7_feed 18 = .ok (.getfield 78, 3) := by decide +kernel
theorem dX7_feed_21 : decode cX7_feed 21 = .ok (.iload_n 1, 1) := by decide +kernel
theorem dX7_feed_22 : decode cX7_feed 22 = .ok (.invokevirtual 82, 3) := by decide +kernel
theorem dX7_feed_25 : decode cX7_feed 25 = .ok (.aload_n 0, 1) := by decide +kernel
theorem dX7_feed_26 : decode cX7_feed 26 = .ok (.aload_n 0, 1) := by decide +kernel
theorem dX7_feed_27 : decode cX7_feed 27 = .ok (.getfield 78, 3) := by decide +kernel
theorem dX7_feed_30 : decode cX7_feed 30 = .ok (.iconst 4, 1) := by decide +kernel
theorem dX7_feed_31 : decode cX7_feed 31 = .ok (.iadd, 1) := by decide +kernel
theorem dX7_feed_32 : decode cX7_feed 32 = .ok (.iload_n 2, 1) := by decide +kernel
theorem dX7_feed_33 : decode cX7_feed 33 = .ok (.invokevirtual 82, 3) := by decide +kernel
theorem dX7_feed_36 : decode cX7_feed 36 = .ok (.aload_n 0, 1) := by decide +kernel
theorem dX7_feed_37 : decode cX7_feed 37 = .ok (.aload_n 0, 1) := by decide +kernel
theorem dX7_feed_38 : decode cX7_feed 38 = .ok (.getfield 78, 3) := by decide +kernel
theorem dX7_feed_41 : decode cX7_feed 41 = .ok (.bipush 8, 2) := by decide +kernel
theorem dX7_feed_43 : decode cX7_feed 43 = .ok (.iadd, 1) := by decide +kernel
theorem dX7_feed_44 : decode cX7_feed 44 = .ok (.iload_n 3, 1) := by decide +kernel
theorem dX7_feed_45 : decode cX7_feed 45 = .ok (.invokevirtual 82, 3) := by decide +kernel
theorem dX7_feed_48 : decode cX7_feed 48 = .ok (.aload_n 0, 1) := by decide +kernel
theorem dX7_feed_49 : decode cX7_feed 49 = .ok (.aload_n 0, 1) := by decide +kernel
theorem dX7_feed_50 : decode cX7_feed 50 = .ok (.getfield 78, 3) := by decide +kernel
theorem dX7_feed_53 : decode cX7_feed 53 = .ok (.bipush 12, 2) := by decide +kernel
theorem dX7_feed_55 : decode cX7_feed 55 = .ok (.iadd, 1) := by decide +kernel
theorem dX7_feed_56 : decode cX7_feed 56 = .ok (.iload 4, 2) := by decide +kernel
theorem dX7_feed_58 : decode cX7_feed 58 = .ok (.invokevirtual 82, 3) := by decide +kernel
theorem dX7_feed_61 : decode cX7_feed 61 = .ok (.aload_n 0, 1) := by decide +kernel
theorem dX7_feed_62 : decode cX7_feed 62 = .ok (.aload_n 0, 1) := by decide +kernel
theorem dX7_feed_63 : decode cX7_feed 63 = .ok (.getfield 78, 3) := by decide +kernel
theorem dX7_feed_66 : decode cX7_feed 66 = .ok (.bipush 16, 2) := by decide +kernel
theorem dX7_feed_68 : decode cX7_feed 68 = .ok (.iadd, 1) := by decide +kernel
theorem dX7_feed_69 : decode cX7_feed 69 = .ok (.iload 5, 2) := by decide +kernel
theorem dX7_feed_71 : decode cX7_feed 71 = .ok (.invokevirtual 82, 3) := by decide +kernel
theorem dX7_feed_74 : decode cX7_feed 74 = .ok (.aload_n 0, 1) := by decide +kernel
theorem dX7_feed_75 : decode cX7_feed 75 = .ok (.dup, 1) := by decide +kernel
theorem dX7_feed_76 : decode cX7_feed 76 = .ok (.getfield 78, 3) := by decide +kernel
theorem dX7_feed_79 : decode cX7_feed 79 = .ok (.bipush 20, 2) := by decide +kernel
theorem dX7_feed_81 : decode cX7_feed 81 = .ok (.iadd, 1) := by decide +kernel
theorem dX7_feed_82 : decode cX7_feed 82 = .ok (.putfield 78, 3) := by decide +kernel
theorem dX7_feed_85 : decode cX7_feed 85 = .ok (.aload_n 0, 1) := by decide +kernel
theorem dX7_feed_86 : decode cX7_feed 86 = .ok (.getfield 78, 3) := by decide +kernel
theorem dX7_feed_89 : decode cX7_feed 89 = .ok (.ireturn, 1) := by decide +kernel
def f_X7_feed (v1 : Int32) (v2 : Int32) (v3 : Int32) (v4 : Int32) (v5 : Int32) (s : zS) : Option (Int32 × zS) :=
  if ((s.1 0 1) + (nI 20)) ≤ (nI 900) then
  (zbd (f_X7_putBytes (s.1 0 1) v1 s) fun _ s1 =>
  zbd (f_X7_putBytes ((s1.1 0 1) + (nI 4)) v2 s1) fun _ s2 =>
  zbd (f_X7_putBytes ((s2.1 0 1) + (nI 8)) v3 s2) fun _ s3 =>
  zbd (f_X7_putBytes ((s3.1 0 1) + (nI 12)) v4 s3) fun _ s4 =>
  zbd (f_X7_putBytes ((s4.1 0 1) + (nI 16)) v5 s4) fun _ s5 =>
  zb (zs_i s5 0 1 ((s5.1 0 1) + (nI 20))) fun s6 =>
  some (s6.1 0 1, s6))
  else
  some ((-5 : Int32), s)
set_option maxRecDepth 20000 in
theorem c_X7_feed (Y : zG) (v1 : Int32) (v2 : Int32) (v3 : Int32) (v4 : Int32) (v5 : Int32) (s : zS) : zM Y yX7_feed cX7_feed 6 (some .int) (zR 1 23) [.ref (zy_a Y 0), .int v1, .int v2, .int v3, .int v4, .int v5] s zrI (f_X7_feed v1 v2 v3 v4 v5 s) := by
  refine zm_start (by decide +kernel) (Nat.le_of_ble_eq_true rfl) ?_
  intro X hY hT hX
  subst hY
  have hX : zx_ok X cX7_feed RX7 6 := hX
  show zV X (zq X zrI) 6 0 [(0, .ref (zx_ad X 0)), (1, .int v1), (2, .int v2), (3, .int v3), (4, .int v4), (5, .int v5)] [] s _
  unfold f_X7_feed
  refine zv_aload_n hX dX7_feed_0 0 rfl ?_
  refine zv_geti hX wf_X7_78 wc_7 zd_0 zj_0_1 c9_7 zr_0_1 dX7_feed_1 ?_
  refine zv_bipush (v := (nI 20)) hX dX7_feed_4 zi_b_20 ?_
  refine zv_iadd hX dX7_feed_6 ?_
  refine zv_sipush (v := (nI 900)) hX dX7_feed_7 zi_s_900 ?_
  refine zv_icmp_le (tgt := 16) hX dX7_feed_10 rfl ?_ ?_
  · refine zv_aload_n hX dX7_feed_16 0 rfl ?_
    refine zv_aload_n hX dX7_feed_17 0 rfl ?_
    refine zv_geti hX wf_X7_78 wc_7 zd_0 zj_0_1 c9_7 zr_0_1 dX7_feed_18 ?_
    refine zv_iload_n hX dX7_feed_21 1 rfl ?_
    refine zv_cVV [.int (s.1 0 1), .int v1] (rest := []) hX hT.2.2.2.2 (c_X7_putBytes (zx_Y X) (s.1 0 1) v1 s) wv_X7_putBytes c9_7 zd_0 wm_X7_82 rfl (Nat.le_of_ble_eq_true rfl) (Nat.le_of_ble_eq_true rfl) rfl (Nat.le_of_ble_eq_true rfl) dX7_feed_22 (fun _ s1 => ?_)
    refine zv_aload_n hX dX7_feed_25 0 rfl ?_
    refine zv_aload_n hX dX7_feed_26 0 rfl ?_
    refine zv_geti hX wf_X7_78 wc_7 zd_0 zj_0_1 c9_7 zr_0_1 dX7_feed_27 ?_
    refine zv_iconst (v := (nI 4)) hX dX7_feed_30 zi_i_4 ?_
    refine zv_iadd hX dX7_feed_31 ?_
    refine zv_iload_n hX dX7_feed_32 2 rfl ?_
    refine zv_cVV [.int ((s1.1 0 1) + (nI 4)), .int v2] (rest := []) hX hT.2.2.2.2 (c_X7_putBytes (zx_Y X) ((s1.1 0 1) + (nI 4)) v2 s1) wv_X7_putBytes c9_7 zd_0 wm_X7_82 rfl (Nat.le_of_ble_eq_true rfl) (Nat.le_of_ble_eq_true rfl) rfl (Nat.le_of_ble_eq_true rfl) dX7_feed_33 (fun _ s2 => ?_)
    refine zv_aload_n hX dX7_feed_36 0 rfl ?_
    refine zv_aload_n hX dX7_feed_37 0 rfl ?_
    refine zv_geti hX wf_X7_78 wc_7 zd_0 zj_0_1 c9_7 zr_0_1 dX7_feed_38 ?_
    refine zv_bipush (v := (nI 8)) hX dX7_feed_41 zi_b_8 ?_
    refine zv_iadd hX dX7_feed_43 ?_
    refine zv_iload_n hX dX7_feed_44 3 rfl ?_
    refine zv_cVV [.int ((s2.1 0 1) + (nI 8)), .int v3] (rest := []) hX hT.2.2.2.2 (c_X7_putBytes (zx_Y X) ((s2.1 0 1) + (nI 8)) v3 s2) wv_X7_putBytes c9_7 zd_0 wm_X7_82 rfl (Nat.le_of_ble_eq_true rfl) (Nat.le_of_ble_eq_true rfl) rfl (Nat.le_of_ble_eq_true rfl) dX7_feed_45 (fun _ s3 => ?_)
    refine zv_aload_n hX dX7_feed_48 0 rfl ?_
    refine zv_aload_n hX dX7_feed_49 0 rfl ?_
    refine zv_geti hX wf_X7_78 wc_7 zd_0 zj_0_1 c9_7 zr_0_1 dX7_feed_50 ?_
    refine zv_bipush (v := (nI 12)) hX dX7_feed_53 zi_b_12 ?_
    refine zv_iadd hX dX7_feed_55 ?_
    refine zv_iload hX dX7_feed_56 4 rfl ?_
    refine zv_cVV [.int ((s3.1 0 1) + (nI 12)), .int v4] (rest := []) hX hT.2.2.2.2 (c_X7_putBytes (zx_Y X) ((s3.1 0 1) + (nI 12)) v4 s3) wv_X7_putBytes c9_7 zd_0 wm_X7_82 rfl (Nat.le_of_ble_eq_true rfl) (Nat.le_of_ble_eq_true rfl) rfl (Nat.le_of_ble_eq_true rfl) dX7_feed_58 (fun _ s4 => ?_)
    refine zv_aload_n hX dX7_feed_61 0 rfl ?_
    refine zv_aload_n hX dX7_feed_62 0 rfl ?_
    refine zv_geti hX wf_X7_78 wc_7 zd_0 zj_0_1 c9_7 zr_0_1 dX7_feed_63 ?_
    refine zv_bipush (v := (nI 16)) hX dX7_feed_66 zi_b_16 ?_
    refine zv_iadd hX dX7_feed_68 ?_
    refine zv_iload hX dX7_feed_69 5 rfl ?_
    refine zv_cVV [.int ((s4.1 0 1) + (nI 16)), .int v5] (rest := []) hX hT.2.2.2.2 (c_X7_putBytes (zx_Y X) ((s4.1 0 1) + (nI 16)) v5 s4) wv_X7_putBytes c9_7 zd_0 wm_X7_82 rfl (Nat.le_of_ble_eq_true rfl) (Nat.le_of_ble_eq_true rfl) rfl (Nat.le_of_ble_eq_true rfl) dX7_feed_71 (fun _ s5 => ?_)
    refine zv_aload_n hX dX7_feed_74 0 rfl ?_
    refine zv_dup hX dX7_feed_75 rfl ?_
    refine zv_geti hX wf_X7_78 wc_7 zd_0 zj_0_1 c9_7 zr_0_1 dX7_feed_76 ?_
    refine zv_bipush (v := (nI 20)) hX dX7_feed_79 zi_b_20 ?_
    refine zv_iadd hX dX7_feed_81 ?_
    refine zv_puti hX wf_X7_78 wc_7 wk_7_1 zd_0 zj_0_1 c9_7 zr_0_1 dX7_feed_82 (fun s6 => ?_)
    refine zv_aload_n hX dX7_feed_85 0 rfl ?_
    refine zv_geti hX wf_X7_78 wc_7 zd_0 zj_0_1 c9_7 zr_0_1 dX7_feed_86 ?_
    exact zv_ireti hX hT dX7_feed_89
  · refine zv_bipush (v := (-5 : Int32)) hX dX7_feed_13 zi_b_m5 ?_
    exact zv_ireti hX hT dX7_feed_15
theorem dX7_fits_0 : decode cX7_fits 0 = .ok (.aload_n 0, 1) := by decide +kernel
theorem dX7_fits_1 : decode cX7_fits 1 = .ok (.getfield 20, 3) := by decide +kernel
theorem dX7_fits_4 : decode cX7_fits 4 = .ok (.iload_n 1, 1) := by decide +kernel
theorem dX7_fits_5 : decode cX7_fits 5 = .ok (.invokevirtual 238, 3) := by decide +kernel
theorem dX7_fits_8 : decode cX7_fits 8 = .ok (.ifCond .eq 7, 3) := by decide +kernel
theorem dX7_fits_11 : decode cX7_fits 11 = .ok (.iload_n 1, 1) := by decide +kernel
theorem dX7_fits_12 : decode cX7_fits 12 = .ok (.ifCond .ne 6, 3) := by decide +kernel
theorem dX7_fits_15 : decode cX7_fits 15 = .ok (.bipush (-3), 2) := by decide +kernel
theorem dX7_fits_17 : decode cX7_fits 17 = .ok (.ireturn, 1) := by decide +kernel
theorem dX7_fits_18 : decode cX7_fits 18 = .ok (.aload_n 0, 1) := by decide +kernel
theorem dX7_fits_19 : decode cX7_fits 19 = .ok (.getfield 36, 3) := by decide +kernel
theorem dX7_fits_22 : decode cX7_fits 22 = .ok (.iload_n 1, 1) := by decide +kernel
theorem dX7_fits_23 : decode cX7_fits 23 = .ok (.invokevirtual 247, 3) := by decide +kernel
theorem dX7_fits_26 : decode cX7_fits 26 = .ok (.ifCond .eq 7, 3) := by decide +kernel
theorem dX7_fits_29 : decode cX7_fits 29 = .ok (.iconst 1, 1) := by decide +kernel
theorem dX7_fits_30 : decode cX7_fits 30 = .ok (.goto 4, 3) := by decide +kernel
theorem dX7_fits_33 : decode cX7_fits 33 = .ok (.iconst 0, 1) := by decide +kernel
theorem dX7_fits_34 : decode cX7_fits 34 = .ok (.ireturn, 1) := by decide +kernel
def f_X7_fits_15  (s : zS) : Option (Int32 × zS) :=
  some ((-3 : Int32), s)
set_option maxRecDepth 20000 in
theorem b_X7_fits_15 {X : zX} (hX : zx_ok X cX7_fits RX7 2) (hT : zx_rt X (some .int) (zR 68 1750)) : ∀  (s : zS), zV X (zq X zrI) 2 15 [] [] s (f_X7_fits_15  s) := by
  intro  s
  unfold f_X7_fits_15
  refine zv_bipush (v := (-3 : Int32)) hX dX7_fits_15 zi_b_m3 ?_
  exact zv_ireti hX hT dX7_fits_17
def f_X7_fits_34 (w0 : Int32) (s : zS) : Option (Int32 × zS) :=
  some (w0, s)
set_option maxRecDepth 20000 in
theorem b_X7_fits_34 {X : zX} (hX : zx_ok X cX7_fits RX7 2) (hT : zx_rt X (some .int) (zR 68 1750)) : ∀ (w0 : Int32) (s : zS), zV X (zq X zrI) 2 34 [] [.int w0] s (f_X7_fits_34 w0 s) := by
  intro w0 s
  unfold f_X7_fits_34
  exact zv_ireti hX hT dX7_fits_34
def f_X7_fits (v1 : Int32) (s : zS) : Option (Int32 × zS) :=
  zbd (f_X5_hasAll_3 v1 s) fun r1 s2 =>
  if r1 = 0 then
  (f_X7_fits_15 s2)
  else
  if ¬ v1 = 0 then
  (zbd (f_X4_isFitting v1 s2) fun r3 s4 =>
  if r3 = 0 then
  (f_X7_fits_34 (0 : Int32) s4)
  else
  f_X7_fits_34 (1 : Int32) s4)
  else
  f_X7_fits_15 s2
set_option maxRecDepth 20000 in
theorem c_X7_fits (Y : zG) (v1 : Int32) (s : zS) : zM Y yX7_fits cX7_fits 2 (some .int) (zR 68 1750) [.ref (zy_a Y 0), .int v1] s zrI (f_X7_fits v1 s) := by
  refine zm_start (by decide +kernel) (Nat.le_of_ble_eq_true rfl) ?_
  intro X hY hT hX
  subst hY
  have hX : zx_ok X cX7_fits RX7 2 := hX
  show zV X (zq X zrI) 2 0 [(0, .ref (zx_ad X 0)), (1, .int v1)] [] s _
  unfold f_X7_fits
  refine zv_aload_n hX dX7_fits_0 0 rfl ?_
  refine zv_geta hX wf_X7_20 wc_7 zd_0 zj_0_2 c9_7 zr_0_2 (by decide) dX7_fits_1 ?_
  refine zv_iload_n hX dX7_fits_4 1 rfl ?_
  refine zv_cVI [.int v1] (rest := []) hX hT.2.2.2.2 (c_X5_hasAll_3 (zx_Y X) v1 s) wv_X5_hasAll c9_5 zd_3 wm_X7_238 rfl (Nat.le_of_ble_eq_true rfl) (Nat.le_of_ble_eq_true rfl) rfl (Nat.le_of_ble_eq_true rfl) dX7_fits_5 (fun r1 s2 => ?_)
  refine zv_if_eq (tgt := 15) hX dX7_fits_8 rfl ?_ ?_
  · exact zv_sub [] rfl (b_X7_fits_15 hX hT  s2)
  · refine zv_iload_n hX dX7_fits_11 1 rfl ?_
    refine zv_if_ne (tgt := 18) hX dX7_fits_12 rfl ?_ ?_
    · refine zv_aload_n hX dX7_fits_18 0 rfl ?_
      refine zv_geta hX wf_X7_36 wc_7 zd_0 zj_0_4 c9_7 zr_0_4 (by decide) dX7_fits_19 ?_
      refine zv_iload_n hX dX7_fits_22 1 rfl ?_
      refine zv_cVI [.int v1] (rest := []) hX hT.2.2.2.2 (c_X4_isFitting (zx_Y X) v1 s2) wv_X4_isFitting c9_4 zd_42 wm_X7_247 rfl (Nat.le_of_ble_eq_true rfl) (Nat.le_of_ble_eq_true rfl) rfl (Nat.le_of_ble_eq_true rfl) dX7_fits_23 (fun r3 s4 => ?_)
      refine zv_if_eq (tgt := 33) hX dX7_fits_26 rfl ?_ ?_
      · refine zv_iconst (v := (0 : Int32)) hX dX7_fits_33 zi_i_0 ?_
        exact zv_sub [] rfl (b_X7_fits_34 hX hT (0 : Int32) s4)
      · refine zv_iconst (v := (1 : Int32)) hX dX7_fits_29 zi_i_1 ?_
        refine zv_goto (tgt := 34) hX dX7_fits_30 rfl ?_
        exact zv_sub [] rfl (b_X7_fits_34 hX hT (1 : Int32) s4)
    · exact zv_sub [] rfl (b_X7_fits_15 hX hT  s2)
theorem dX7_holds_0 : decode cX7_holds 0 = .ok (.aload_n 0, 1) := by decide +kernel
theorem dX7_holds_1 : decode cX7_holds 1 = .ok (.getfield 45, 3) := by decide +kernel
theorem dX7_holds_4 : decode cX7_holds 4 = .ok (.invokevirtual 205, 3) := by decide +kernel
theorem dX7_holds_7 : decode cX7_holds 7 = .ok (.aload_n 0, 1) := by decide +kernel
theorem dX7_holds_8 : decode cX7_holds 8 = .ok (.getfield 45, 3) := by decide +kernel
theorem dX7_holds_11 : decode cX7_holds 11 = .ok (.aload_n 0, 1) := by decide +kernel
theorem dX7_holds_12 : decode cX7_holds 12 = .ok (.getfield 20, 3) := by decide +kernel
theorem dX7_holds_15 : decode cX7_holds 15 = .ok (.getfield 131, 3) := by decide +kernel
theorem dX7_holds_18 : decode cX7_holds 18 = .ok (.aload_n 0, 1) := by decide +kernel
theorem dX7_holds_19 : decode cX7_holds 19 = .ok (.getfield 20, 3) := by decide +kernel
theorem dX7_holds_22 : decode cX7_holds 22 = .ok (.invokevirtual 208, 3) := by decide +kernel
theorem dX7_holds_25 : decode cX7_holds 25 = .ok (.invokevirtual 211, 3) := by decide +kernel
theorem dX7_holds_28 : decode cX7_holds 28 = .ok (.ifCond .eq 7, 3) := by decide +kernel
theorem dX7_holds_31 : decode cX7_holds 31 = .ok (.iconst 1, 1) := by decide +kernel
theorem dX7_holds_32 : decode cX7_holds 32 = .ok (.goto 4, 3) := by decide +kernel
theorem dX7_holds_35 : decode cX7_holds 35 = .ok (.iconst 0, 1) := by decide +kernel
theorem dX7_holds_36 : decode cX7_holds 36 = .ok (.ireturn, 1) := by decide +kernel
def f_X7_holds_36 (w0 : Int32) (s : zS) : Option (Int32 × zS) :=
  some (w0, s)
set_option maxRecDepth 20000 in
theorem b_X7_holds_36 {X : zX} (hX : zx_ok X cX7_holds RX7 1) (hT : zx_rt X (some .int) (zR 6 147)) : ∀ (w0 : Int32) (s : zS), zV X (zq X zrI) 1 36 [] [.int w0] s (f_X7_holds_36 w0 s) := by
  intro w0 s
  unfold f_X7_holds_36
  exact zv_ireti hX hT dX7_holds_36
def f_X7_holds  (s : zS) : Option (Int32 × zS) :=
  zbd (f_X0_learnMatches s) fun _ s1 =>
  zbd (f_X5_everybody_3 s1) fun r2 s3 =>
  zbd (f_X0_holdsAmong 8 r2 s3) fun r4 s5 =>
  if r4 = 0 then
  (f_X7_holds_36 (0 : Int32) s5)
  else
  f_X7_holds_36 (1 : Int32) s5
set_option maxRecDepth 20000 in
theorem c_X7_holds (Y : zG)  (s : zS) : zM Y yX7_holds cX7_holds 1 (some .int) (zR 6 147) [.ref (zy_a Y 0)] s zrI (f_X7_holds  s) := by
  refine zm_start (by decide +kernel) (Nat.le_of_ble_eq_true rfl) ?_
  intro X hY hT hX
  subst hY
  have hX : zx_ok X cX7_holds RX7 1 := hX
  show zV X (zq X zrI) 1 0 [(0, .ref (zx_ad X 0))] [] s _
  unfold f_X7_holds
  refine zv_aload_n hX dX7_holds_0 0 rfl ?_
  refine zv_geta hX wf_X7_45 wc_7 zd_0 zj_0_5 c9_7 zr_0_5 (by decide) dX7_holds_1 ?_
  refine zv_cVV [] (rest := []) hX hT.2.2.2.2 (c_X0_learnMatches (zx_Y X) s) wv_X0_learnMatches c9_0 zd_60 wm_X7_205 rfl (Nat.le_of_ble_eq_true rfl) (Nat.le_of_ble_eq_true rfl) rfl (Nat.le_of_ble_eq_true rfl) dX7_holds_4 (fun _ s1 => ?_)
  refine zv_aload_n hX dX7_holds_7 0 rfl ?_
  refine zv_geta hX wf_X7_45 wc_7 zd_0 zj_0_5 c9_7 zr_0_5 (by decide) dX7_holds_8 ?_
  refine zv_aload_n hX dX7_holds_11 0 rfl ?_
  refine zv_geta hX wf_X7_20 wc_7 zd_0 zj_0_2 c9_7 zr_0_2 (by decide) dX7_holds_12 ?_
  refine zv_geta hX wf_X7_131 wc_5 zd_3 zj_3_6 c9_5 zr_3_6 (by decide) dX7_holds_15 ?_
  refine zv_aload_n hX dX7_holds_18 0 rfl ?_
  refine zv_geta hX wf_X7_20 wc_7 zd_0 zj_0_2 c9_7 zr_0_2 (by decide) dX7_holds_19 ?_
  refine zv_cVI [] (rest := [.ref (zx_ad X 8), .ref (zx_ad X 60)]) hX hT.2.2.2.2 (c_X5_everybody_3 (zx_Y X) s1) wv_X5_everybody c9_5 zd_3 wm_X7_208 rfl (Nat.le_of_ble_eq_true rfl) (Nat.le_of_ble_eq_true rfl) rfl (Nat.le_of_ble_eq_true rfl) dX7_holds_22 (fun r2 s3 => ?_)
  refine zv_cVI [.ref (zx_ad X 8), .int r2] (rest := []) hX hT.2.2.2.2 (c_X0_holdsAmong (zx_Y X) 8 r2 s3) wv_X0_holdsAmong c9_0 zd_60 wm_X7_211 rfl (Nat.le_of_ble_eq_true rfl) (Nat.le_of_ble_eq_true rfl) rfl (Nat.le_of_ble_eq_true rfl) dX7_holds_25 (fun r4 s5 => ?_)
  refine zv_if_eq (tgt := 35) hX dX7_holds_28 rfl ?_ ?_
  · refine zv_iconst (v := (0 : Int32)) hX dX7_holds_35 zi_i_0 ?_
    exact zv_sub [] rfl (b_X7_holds_36 hX hT (0 : Int32) s5)
  · refine zv_iconst (v := (1 : Int32)) hX dX7_holds_31 zi_i_1 ?_
    refine zv_goto (tgt := 36) hX dX7_holds_32 rfl ?_
    exact zv_sub [] rfl (b_X7_holds_36 hX hT (1 : Int32) s5)
theorem dX7_image_0 : decode cX7_image 0 = .ok (.iload_n 1, 1) := by decide +kernel
theorem dX7_image_1 : decode cX7_image 1 = .ok (.ifCond .lt 8, 3) := by decide +kernel
theorem dX7_image_4 : decode cX7_image 4 = .ok (.iload_n 1, 1) := by decide +kernel
theorem dX7_image_5 : decode cX7_image 5 = .ok (.iconst 2, 1) := by decide +kernel
theorem dX7_image_6 : decode cX7_image 6 = .ok (.if_icmp .lt 6, 3) := by decide +kernel
theorem dX7_image_9 : decode cX7_image 9 = .ok (.bipush (-2), 2) := by decide +kernel
theorem dX7_image_11 : decode cX7_image 11 = .ok (.ireturn, 1) := by decide +kernel
theorem dX7_image_12 : decode cX7_image 12 = .ok (.iload_n 1, 1) := by decide +kernel
theorem dX7_image_13 : decode cX7_image 13 = .ok (.ifCond .ne 10, 3) := by decide +kernel
theorem dX7_image_16 : decode cX7_image 16 = .ok (.aload_n 0, 1) := by decide +kernel
theorem dX7_image_17 : decode cX7_image 17 = .ok (.getfield 72, 3) := by decide +kernel
theorem dX7_image_20 : decode cX7_image 20 = .ok (.goto 7, 3) := by decide +kernel
theorem dX7_image_23 : decode cX7_image 23 = .ok (.aload_n 0, 1) := by decide +kernel
theorem dX7_image_24 : decode cX7_image 24 = .ok (.getfield 75, 3) := by decide +kernel
theorem dX7_image_27 : decode cX7_image 27 = .ok (.aload_n 0, 1) := by decide +kernel
theorem dX7_image_28 : decode cX7_image 28 = .ok (.getfield 20, 3) := by decide +kernel
theorem dX7_image_31 : decode cX7_image 31 = .ok (.invokevirtual 93, 3) := by decide +kernel
theorem dX7_image_34 : decode cX7_image 34 = .ok (.aload_n 0, 1) := by decide +kernel
theorem dX7_image_35 : decode cX7_image 35 = .ok (.getfield 13, 3) := by decide +kernel
theorem dX7_image_38 : decode cX7_image 38 = .ok (.iload_n 1, 1) := by decide +kernel
theorem dX7_image_39 : decode cX7_image 39 = .ok (.iconst 1, 1) := by decide +kernel
theorem dX7_image_40 : decode cX7_image 40 = .ok (.bastore, 1) := by decide +kernel
theorem dX7_image_41 : decode cX7_image 41 = .ok (.iconst 0, 1) := by decide +kernel
theorem dX7_image_42 : decode cX7_image 42 = .ok (.ireturn, 1) := by decide +kernel
def f_X7_image_9  (s : zS) : Option (Int32 × zS) :=
  some ((-2 : Int32), s)
set_option maxRecDepth 20000 in
theorem b_X7_image_9 {X : zX} (hX : zx_ok X cX7_image RX7 2) (hT : zx_rt X (some .int) (zR 3 123)) : ∀  (s : zS), zV X (zq X zrI) 2 9 [] [] s (f_X7_image_9  s) := by
  intro  s
  unfold f_X7_image_9
  refine zv_bipush (v := (-2 : Int32)) hX dX7_image_9 zi_b_m2 ?_
  exact zv_ireti hX hT dX7_image_11
def f_X7_image (v1 : Int32) (s : zS) : Option (Int32 × zS) :=
  if v1 < 0 then
  (f_X7_image_9 s)
  else
  if v1 < (nI 2) then
  (if ¬ v1 = 0 then
  (zbd (f_X5_copyFrom_21_3 s) fun _ s1 =>
  (zw_b s1 2 v1 (1 : Int32)).bind fun s2 =>
  some ((0 : Int32), s2))
  else
  zbd (f_X5_copyFrom_12_3 s) fun _ s3 =>
  (zw_b s3 2 v1 (1 : Int32)).bind fun s4 =>
  some ((0 : Int32), s4))
  else
  f_X7_image_9 s
set_option maxRecDepth 20000 in
theorem c_X7_image (Y : zG) (v1 : Int32) (s : zS) : zM Y yX7_image cX7_image 2 (some .int) (zR 3 123) [.ref (zy_a Y 0), .int v1] s zrI (f_X7_image v1 s) := by
  refine zm_start (by decide +kernel) (Nat.le_of_ble_eq_true rfl) ?_
  intro X hY hT hX
  subst hY
  have hX : zx_ok X cX7_image RX7 2 := hX
  show zV X (zq X zrI) 2 0 [(0, .ref (zx_ad X 0)), (1, .int v1)] [] s _
  unfold f_X7_image
  refine zv_iload_n hX dX7_image_0 1 rfl ?_
  refine zv_if_lt (tgt := 9) hX dX7_image_1 rfl ?_ ?_
  · exact zv_sub [] rfl (b_X7_image_9 hX hT  s)
  · refine zv_iload_n hX dX7_image_4 1 rfl ?_
    refine zv_iconst (v := (nI 2)) hX dX7_image_5 zi_i_2 ?_
    refine zv_icmp_lt (tgt := 12) hX dX7_image_6 rfl ?_ ?_
    · refine zv_iload_n hX dX7_image_12 1 rfl ?_
      refine zv_if_ne (tgt := 23) hX dX7_image_13 rfl ?_ ?_
      · refine zv_aload_n hX dX7_image_23 0 rfl ?_
        refine zv_geta hX wf_X7_75 wc_7 zd_0 zj_0_10 c9_7 zr_0_10 (by decide) dX7_image_24 ?_
        refine zv_aload_n hX dX7_image_27 0 rfl ?_
        refine zv_geta hX wf_X7_20 wc_7 zd_0 zj_0_2 c9_7 zr_0_2 (by decide) dX7_image_28 ?_
        refine zv_cVV [.ref (zx_ad X 3)] (rest := []) hX hT.2.2.2.2 (c_X5_copyFrom_21_3 (zx_Y X) s) wv_X5_copyFrom c9_5 zd_21 wm_X7_93 rfl (Nat.le_of_ble_eq_true rfl) (Nat.le_of_ble_eq_true rfl) rfl (Nat.le_of_ble_eq_true rfl) dX7_image_31 (fun _ s1 => ?_)
        refine zv_aload_n hX dX7_image_34 0 rfl ?_
        refine zv_geta hX wf_X7_13 wc_7 zd_0 zj_0_11 c9_7 zr_0_11 (by decide) dX7_image_35 ?_
        refine zv_iload_n hX dX7_image_38 1 rfl ?_
        refine zv_iconst (v := (1 : Int32)) hX dX7_image_39 zi_i_1 ?_
        refine zv_bast hX dX7_image_40 (fun s2 => ?_)
        refine zv_iconst (v := (0 : Int32)) hX dX7_image_41 zi_i_0 ?_
        exact zv_ireti hX hT dX7_image_42
      · refine zv_aload_n hX dX7_image_16 0 rfl ?_
        refine zv_geta hX wf_X7_72 wc_7 zd_0 zj_0_9 c9_7 zr_0_9 (by decide) dX7_image_17 ?_
        refine zv_goto (tgt := 27) hX dX7_image_20 rfl ?_
        refine zv_aload_n hX dX7_image_27 0 rfl ?_
        refine zv_geta hX wf_X7_20 wc_7 zd_0 zj_0_2 c9_7 zr_0_2 (by decide) dX7_image_28 ?_
        refine zv_cVV [.ref (zx_ad X 3)] (rest := []) hX hT.2.2.2.2 (c_X5_copyFrom_12_3 (zx_Y X) s) wv_X5_copyFrom c9_5 zd_12 wm_X7_93 rfl (Nat.le_of_ble_eq_true rfl) (Nat.le_of_ble_eq_true rfl) rfl (Nat.le_of_ble_eq_true rfl) dX7_image_31 (fun _ s3 => ?_)
        refine zv_aload_n hX dX7_image_34 0 rfl ?_
        refine zv_geta hX wf_X7_13 wc_7 zd_0 zj_0_11 c9_7 zr_0_11 (by decide) dX7_image_35 ?_
        refine zv_iload_n hX dX7_image_38 1 rfl ?_
        refine zv_iconst (v := (1 : Int32)) hX dX7_image_39 zi_i_1 ?_
        refine zv_bast hX dX7_image_40 (fun s4 => ?_)
        refine zv_iconst (v := (0 : Int32)) hX dX7_image_41 zi_i_0 ?_
        exact zv_ireti hX hT dX7_image_42
    · exact zv_sub [] rfl (b_X7_image_9 hX hT  s)
