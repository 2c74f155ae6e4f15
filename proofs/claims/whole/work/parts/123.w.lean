theorem dX7_judge_0 : decode cX7_judge 0 = .ok (.aload_n 0, 1) := by decide +kernel
theorem dX7_judge_1 : decode cX7_judge 1 = .ok (.getfield 52, 3) := by decide +kernel
theorem dX7_judge_4 : decode cX7_judge 4 = .ok (.iload_n 1, 1) := by decide +kernel
theorem dX7_judge_5 : decode cX7_judge 5 = .ok (.invokevirtual 177, 3) := by decide +kernel
theorem dX7_judge_8 : decode cX7_judge 8 = .ok (.ifCond .eq 12, 3) := by decide +kernel
theorem dX7_judge_11 : decode cX7_judge 11 = .ok (.iload_n 2, 1) := by decide +kernel
theorem dX7_judge_12 : decode cX7_judge 12 = .ok (.ifCond .lt 8, 3) := by decide +kernel
theorem dX7_judge_15 : decode cX7_judge 15 = .ok (.iload_n 2, 1) := by decide +kernel
theorem dX7_judge_16 : decode cX7_judge 16 = .ok (.iconst 3, 1) := by decide +kernel
theorem dX7_judge_17 : decode cX7_judge 17 = .ok (.if_icmp .le 6, 3) := by decide +kernel
theorem dX7_judge_20 : decode cX7_judge 20 = .ok (.bipush (-2), 2) := by decide +kernel
theorem dX7_judge_22 : decode cX7_judge 22 = .ok (.ireturn, 1) := by decide +kernel
theorem dX7_judge_23 : decode cX7_judge 23 = .ok (.aload_n 0, 1) := by decide +kernel
theorem dX7_judge_24 : decode cX7_judge 24 = .ok (.getfield 52, 3) := by decide +kernel
theorem dX7_judge_27 : decode cX7_judge 27 = .ok (.iload_n 1, 1) := by decide +kernel
theorem dX7_judge_28 : decode cX7_judge 28 = .ok (.invokevirtual 180, 3) := by decide +kernel
theorem dX7_judge_31 : decode cX7_judge 31 = .ok (.ifCond .eq 6, 3) := by decide +kernel
theorem dX7_judge_34 : decode cX7_judge 34 = .ok (.bipush (-6), 2) := by decide +kernel
theorem dX7_judge_36 : decode cX7_judge 36 = .ok (.ireturn, 1) := by decide +kernel
theorem dX7_judge_37 : decode cX7_judge 37 = .ok (.aload_n 0, 1) := by decide +kernel
theorem dX7_judge_38 : decode cX7_judge 38 = .ok (.getfield 68, 3) := by decide +kernel
theorem dX7_judge_41 : decode cX7_judge 41 = .ok (.invokevirtual 149, 3) := by decide +kernel
theorem dX7_judge_44 : decode cX7_judge 44 = .ok (.aload_n 0, 1) := by decide +kernel
theorem dX7_judge_45 : decode cX7_judge 45 = .ok (.getfield 61, 3) := by decide +kernel
theorem dX7_judge_48 : decode cX7_judge 48 = .ok (.iload_n 1, 1) := by decide +kernel
theorem dX7_judge_49 : decode cX7_judge 49 = .ok (.invokevirtual 183, 3) := by decide +kernel
theorem dX7_judge_52 : decode cX7_judge 52 = .ok (.istore_n 3, 1) := by decide +kernel
theorem dX7_judge_53 : decode cX7_judge 53 = .ok (.aload_n 0, 1) := by decide +kernel
theorem dX7_judge_54 : decode cX7_judge 54 = .ok (.getfield 20, 3) := by decide +kernel
theorem dX7_judge_57 : decode cX7_judge 57 = .ok (.invokevirtual 186, 3) := by decide +kernel
theorem dX7_judge_60 : decode cX7_judge 60 = .ok (.istore 4, 2) := by decide +kernel
theorem dX7_judge_62 : decode cX7_judge 62 = .ok (.aload_n 0, 1) := by decide +kernel
theorem dX7_judge_63 : decode cX7_judge 63 = .ok (.getfield 20, 3) := by decide +kernel
theorem dX7_judge_66 : decode cX7_judge 66 = .ok (.invokevirtual 190, 3) := by decide +kernel
theorem dX7_judge_69 : decode cX7_judge 69 = .ok (.istore 5, 2) := by decide +kernel
theorem dX7_judge_71 : decode cX7_judge 71 = .ok (.aload_n 0, 1) := by decide +kernel
theorem dX7_judge_72 : decode cX7_judge 72 = .ok (.getfield 68, 3) := by decide +kernel
theorem dX7_judge_75 : decode cX7_judge 75 = .ok (.invokevirtual 193, 3) := by decide +kernel
theorem dX7_judge_78 : decode cX7_judge 78 = .ok (.iload_n 2, 1) := by decide +kernel
theorem dX7_judge_79 : decode cX7_judge 79 = .ok (.tableswitch 52 0 2 #[25, 41, 49], 25) := by decide +kernel
theorem dX7_judge_104 : decode cX7_judge 104 = .ok (.aload_n 0, 1) := by decide +kernel
theorem dX7_judge_105 : decode cX7_judge 105 = .ok (.getfield 61, 3) := by decide +kernel
theorem dX7_judge_108 : decode cX7_judge 108 = .ok (.getfield 196, 3) := by decide +kernel
theorem dX7_judge_111 : decode cX7_judge 111 = .ok (.ifCond .ne 7, 3) := by decide +kernel
theorem dX7_judge_114 : decode cX7_judge 114 = .ok (.iconst (-1), 1) := by decide +kernel
theorem dX7_judge_115 : decode cX7_judge 115 = .ok (.goto 4, 3) := by decide +kernel
theorem dX7_judge_118 : decode cX7_judge 118 = .ok (.iload_n 3, 1) := by decide +kernel
theorem dX7_judge_119 : decode cX7_judge 119 = .ok (.ireturn, 1) := by decide +kernel
theorem dX7_judge_120 : decode cX7_judge 120 = .ok (.aload_n 0, 1) := by decide +kernel
theorem dX7_judge_121 : decode cX7_judge 121 = .ok (.getfield 61, 3) := by decide +kernel
theorem dX7_judge_124 : decode cX7_judge 124 = .ok (.getfield 196, 3) := by decide +kernel
theorem dX7_judge_127 : decode cX7_judge 127 = .ok (.ireturn, 1) := by decide +kernel
theorem dX7_judge_128 : decode cX7_judge 128 = .ok (.iload 4, 2) := by decide +kernel
theorem dX7_judge_130 : decode cX7_judge 130 = .ok (.ireturn, 1) := by decide +kernel
theorem dX7_judge_131 : decode cX7_judge 131 = .ok (.iload 5, 2) := by decide +kernel
theorem dX7_judge_133 : decode cX7_judge 133 = .ok (.ireturn, 1) := by decide +kernel
def f_X7_judge_20  (s : zS) : Option (Int32 × zS) :=
  some ((-2 : Int32), s)
set_option maxRecDepth 20000 in
theorem b_X7_judge_20 {X : zX} (hX : zx_ok X cX7_judge RX7 6) (hT : zx_rt X (some .int) (zR 7 171)) : ∀  (s : zS), zV X (zq X zrI) 6 20 [] [] s (f_X7_judge_20  s) := by
  intro  s
  unfold f_X7_judge_20
  refine zv_bipush (v := (-2 : Int32)) hX dX7_judge_20 zi_b_m2 ?_
  exact zv_ireti hX hT dX7_judge_22
def f_X7_judge_119 (w0 : Int32) (s : zS) : Option (Int32 × zS) :=
  some (w0, s)
set_option maxRecDepth 20000 in
theorem b_X7_judge_119 {X : zX} (hX : zx_ok X cX7_judge RX7 6) (hT : zx_rt X (some .int) (zR 7 171)) : ∀ (w0 : Int32) (s : zS), zV X (zq X zrI) 6 119 [] [.int w0] s (f_X7_judge_119 w0 s) := by
  intro w0 s
  unfold f_X7_judge_119
  exact zv_ireti hX hT dX7_judge_119
def f_X7_judge (v1 : Int32) (v2 : Int32) (s : zS) : Option (Int32 × zS) :=
  zbd (f_X6_isOne v1 s) fun r1 s2 =>
  if r1 = 0 then
  (f_X7_judge_20 s2)
  else
  if v2 < 0 then
  (f_X7_judge_20 s2)
  else
  if v2 ≤ (nI 3) then
  (zbd (f_X6_isMissing v1 s2) fun r3 s4 =>
  if r3 = 0 then
  (zbd (f_X2_hold s4) fun _ s5 =>
  zbd (f_X1_doTray v1 s5) fun r6 s7 =>
  zbd (f_X5_engagedBits_3 s7) fun r8 s9 =>
  zbd (f_X5_inkOfAll_3 s9) fun r10 s11 =>
  zbd (f_X2_giveBack s11) fun _ s12 =>
  if v2 = (0 : Int32) then
  (if ¬ (s12.1 72 4) = 0 then
  (f_X7_judge_119 r6 s12)
  else
  f_X7_judge_119 (-1 : Int32) s12)
  else if v2 = (1 : Int32) then
  (some (s12.1 72 4, s12))
  else if v2 = (nI 2) then
  (some (r8, s12))
  else 
  some (r10, s12))
  else
  some ((-6 : Int32), s4))
  else
  f_X7_judge_20 s2
set_option maxRecDepth 20000 in
theorem c_X7_judge (Y : zG) (v1 : Int32) (v2 : Int32) (s : zS) : zM Y yX7_judge cX7_judge 6 (some .int) (zR 7 171) [.ref (zy_a Y 0), .int v1, .int v2] s zrI (f_X7_judge v1 v2 s) := by
  refine zm_start (by decide +kernel) (Nat.le_of_ble_eq_true rfl) ?_
  intro X hY hT hX
  subst hY
  have hX : zx_ok X cX7_judge RX7 6 := hX
  show zV X (zq X zrI) 6 0 [(0, .ref (zx_ad X 0)), (1, .int v1), (2, .int v2)] [] s _
  unfold f_X7_judge
  refine zv_aload_n hX dX7_judge_0 0 rfl ?_
  refine zv_geta hX wf_X7_52 wc_7 zd_0 zj_0_8 c9_7 zr_0_8 (by decide) dX7_judge_1 ?_
  refine zv_iload_n hX dX7_judge_4 1 rfl ?_
  refine zv_cVI [.int v1] (rest := []) hX hT.2.2.2.2 (c_X6_isOne (zx_Y X) v1 s) wv_X6_isOne c9_6 zd_68 wm_X7_177 rfl (Nat.le_of_ble_eq_true rfl) (Nat.le_of_ble_eq_true rfl) rfl (Nat.le_of_ble_eq_true rfl) dX7_judge_5 (fun r1 s2 => ?_)
  refine zv_if_eq (tgt := 20) hX dX7_judge_8 rfl ?_ ?_
  · exact zv_sub [] rfl (b_X7_judge_20 hX hT  s2)
  · refine zv_iload_n hX dX7_judge_11 2 rfl ?_
    refine zv_if_lt (tgt := 20) hX dX7_judge_12 rfl ?_ ?_
    · exact zv_sub [] rfl (b_X7_judge_20 hX hT  s2)
    · refine zv_iload_n hX dX7_judge_15 2 rfl ?_
      refine zv_iconst (v := (nI 3)) hX dX7_judge_16 zi_i_3 ?_
      refine zv_icmp_le (tgt := 23) hX dX7_judge_17 rfl ?_ ?_
      · refine zv_aload_n hX dX7_judge_23 0 rfl ?_
        refine zv_geta hX wf_X7_52 wc_7 zd_0 zj_0_8 c9_7 zr_0_8 (by decide) dX7_judge_24 ?_
        refine zv_iload_n hX dX7_judge_27 1 rfl ?_
        refine zv_cVI [.int v1] (rest := []) hX hT.2.2.2.2 (c_X6_isMissing (zx_Y X) v1 s2) wv_X6_isMissing c9_6 zd_68 wm_X7_180 rfl (Nat.le_of_ble_eq_true rfl) (Nat.le_of_ble_eq_true rfl) rfl (Nat.le_of_ble_eq_true rfl) dX7_judge_28 (fun r3 s4 => ?_)
        refine zv_if_eq (tgt := 37) hX dX7_judge_31 rfl ?_ ?_
        · refine zv_aload_n hX dX7_judge_37 0 rfl ?_
          refine zv_geta hX wf_X7_68 wc_7 zd_0 zj_0_7 c9_7 zr_0_7 (by decide) dX7_judge_38 ?_
          refine zv_cVV [] (rest := []) hX hT.2.2.2.2 (c_X2_hold (zx_Y X) s4) wv_X2_hold c9_2 zd_73 wm_X7_149 rfl (Nat.le_of_ble_eq_true rfl) (Nat.le_of_ble_eq_true rfl) rfl (Nat.le_of_ble_eq_true rfl) dX7_judge_41 (fun _ s5 => ?_)
          refine zv_aload_n hX dX7_judge_44 0 rfl ?_
          refine zv_geta hX wf_X7_61 wc_7 zd_0 zj_0_6 c9_7 zr_0_6 (by decide) dX7_judge_45 ?_
          refine zv_iload_n hX dX7_judge_48 1 rfl ?_
          refine zv_cVI [.int v1] (rest := []) hX hT.2.2.2.2 (c_X1_doTray (zx_Y X) v1 s5) wv_X1_doTray c9_1 zd_72 wm_X7_183 rfl (Nat.le_of_ble_eq_true rfl) (Nat.le_of_ble_eq_true rfl) rfl (Nat.le_of_ble_eq_true rfl) dX7_judge_49 (fun r6 s7 => ?_)
          refine zv_istore_n (lv' := [(3, .int r6), (0, .ref (zx_ad X 0)), (1, .int v1), (2, .int v2)]) hX dX7_judge_52 (by decide) rfl ?_
          refine zv_aload_n hX dX7_judge_53 1 rfl ?_
          refine zv_geta hX wf_X7_20 wc_7 zd_0 zj_0_2 c9_7 zr_0_2 (by decide) dX7_judge_54 ?_
          refine zv_cVI [] (rest := []) hX hT.2.2.2.2 (c_X5_engagedBits_3 (zx_Y X) s7) wv_X5_engagedBits c9_5 zd_3 wm_X7_186 rfl (Nat.le_of_ble_eq_true rfl) (Nat.le_of_ble_eq_true rfl) rfl (Nat.le_of_ble_eq_true rfl) dX7_judge_57 (fun r8 s9 => ?_)
          refine zv_istore (lv' := [(4, .int r8), (3, .int r6), (0, .ref (zx_ad X 0)), (1, .int v1), (2, .int v2)]) hX dX7_judge_60 (by decide) rfl ?_
          refine zv_aload_n hX dX7_judge_62 2 rfl ?_
          refine zv_geta hX wf_X7_20 wc_7 zd_0 zj_0_2 c9_7 zr_0_2 (by decide) dX7_judge_63 ?_
          refine zv_cVI [] (rest := []) hX hT.2.2.2.2 (c_X5_inkOfAll_3 (zx_Y X) s9) wv_X5_inkOfAll c9_5 zd_3 wm_X7_190 rfl (Nat.le_of_ble_eq_true rfl) (Nat.le_of_ble_eq_true rfl) rfl (Nat.le_of_ble_eq_true rfl) dX7_judge_66 (fun r10 s11 => ?_)
          refine zv_istore (lv' := [(5, .int r10), (4, .int r8), (3, .int r6), (0, .ref (zx_ad X 0)), (1, .int v1), (2, .int v2)]) hX dX7_judge_69 (by decide) rfl ?_
          refine zv_aload_n hX dX7_judge_71 3 rfl ?_
          refine zv_geta hX wf_X7_68 wc_7 zd_0 zj_0_7 c9_7 zr_0_7 (by decide) dX7_judge_72 ?_
          refine zv_cVV [] (rest := []) hX hT.2.2.2.2 (c_X2_giveBack (zx_Y X) s11) wv_X2_giveBack c9_2 zd_73 wm_X7_193 rfl (Nat.le_of_ble_eq_true rfl) (Nat.le_of_ble_eq_true rfl) rfl (Nat.le_of_ble_eq_true rfl) dX7_judge_75 (fun _ s12 => ?_)
          refine zv_iload_n hX dX7_judge_78 5 rfl ?_
          refine zv_ite (fun h79_0 => ?_) (fun h79_0 => ?_)
          · refine zv_tabI (tgt := 104) hX dX7_judge_79 (0 : Int32) h79_0 (by decide) (by decide) rfl rfl ?_
            refine zv_aload_n hX dX7_judge_104 3 rfl ?_
            refine zv_geta hX wf_X7_61 wc_7 zd_0 zj_0_6 c9_7 zr_0_6 (by decide) dX7_judge_105 ?_
            refine zv_geti hX wf_X7_196 wc_1 zd_72 zj_72_4 c9_1 zr_72_4 dX7_judge_108 ?_
            refine zv_if_ne (tgt := 118) hX dX7_judge_111 rfl ?_ ?_
            · refine zv_iload_n hX dX7_judge_118 2 rfl ?_
              exact zv_sub [] rfl (b_X7_judge_119 hX hT r6 s12)
            · refine zv_iconst (v := (-1 : Int32)) hX dX7_judge_114 zi_i_m1 ?_
              refine zv_goto (tgt := 119) hX dX7_judge_115 rfl ?_
              exact zv_sub [] rfl (b_X7_judge_119 hX hT (-1 : Int32) s12)
          refine zv_ite (fun h79_1 => ?_) (fun h79_1 => ?_)
          · refine zv_tabI (tgt := 120) hX dX7_judge_79 (1 : Int32) h79_1 (by decide) (by decide) rfl rfl ?_
            refine zv_aload_n hX dX7_judge_120 3 rfl ?_
            refine zv_geta hX wf_X7_61 wc_7 zd_0 zj_0_6 c9_7 zr_0_6 (by decide) dX7_judge_121 ?_
            refine zv_geti hX wf_X7_196 wc_1 zd_72 zj_72_4 c9_1 zr_72_4 dX7_judge_124 ?_
            exact zv_ireti hX hT dX7_judge_127
          refine zv_ite (fun h79_2 => ?_) (fun h79_2 => ?_)
          · refine zv_tabI (tgt := 128) hX dX7_judge_79 (nI 2) h79_2 (by decide) (by decide) rfl rfl ?_
            refine zv_iload hX dX7_judge_128 1 rfl ?_
            exact zv_ireti hX hT dX7_judge_130
          refine zv_tabO (tgt := 131) hX dX7_judge_79 (zt_out 0 3 (by decide) (fun j hj => by match j, hj with | 0, _ => exact h79_0 | 1, _ => exact h79_1 | 2, _ => exact h79_2)) rfl ?_
          refine zv_iload hX dX7_judge_131 0 rfl ?_
          exact zv_ireti hX hT dX7_judge_133
        · refine zv_bipush (v := (-6 : Int32)) hX dX7_judge_34 zi_b_m6 ?_
          exact zv_ireti hX hT dX7_judge_36
      · exact zv_sub [] rfl (b_X7_judge_20 hX hT  s2)
theorem dX7_keepIfAny_0 : decode cX7_keepIfAny 0 = .ok (.iload_n 1, 1) := by decide +kernel
theorem dX7_keepIfAny_1 : decode cX7_keepIfAny 1 = .ok (.ifCond .le 10, 3) := by decide +kernel
theorem dX7_keepIfAny_4 : decode cX7_keepIfAny 4 = .ok (.aload_n 0, 1) := by decide +kernel
theorem dX7_keepIfAny_5 : decode cX7_keepIfAny 5 = .ok (.getfield 68, 3) := by decide +kernel
theorem dX7_keepIfAny_8 : decode cX7_keepIfAny 8 = .ok (.invokevirtual 155, 3) := by decide +kernel
theorem dX7_keepIfAny_11 : decode cX7_keepIfAny 11 = .ok (.iload_n 1, 1) := by decide +kernel
theorem dX7_keepIfAny_12 : decode cX7_keepIfAny 12 = .ok (.ireturn, 1) := by decide +kernel
def f_X7_keepIfAny_11 (v1 : Int32) (s : zS) : Option (Int32 × zS) :=
  some (v1, s)
set_option maxRecDepth 20000 in
theorem b_X7_keepIfAny_11 {X : zX} (hX : zx_ok X cX7_keepIfAny RX7 2) (hT : zx_rt X (some .int) (zR 2 100)) : ∀ (v1 : Int32) (s : zS), zV X (zq X zrI) 2 11 [(1, .int v1)] [] s (f_X7_keepIfAny_11 v1 s) := by
  intro v1 s
  unfold f_X7_keepIfAny_11
  refine zv_iload_n hX dX7_keepIfAny_11 0 rfl ?_
  exact zv_ireti hX hT dX7_keepIfAny_12
def f_X7_keepIfAny (v1 : Int32) (s : zS) : Option (Int32 × zS) :=
  if v1 ≤ 0 then
  (f_X7_keepIfAny_11 v1 s)
  else
  zbd (f_X2_keep s) fun _ s1 =>
  f_X7_keepIfAny_11 v1 s1
set_option maxRecDepth 20000 in
theorem c_X7_keepIfAny (Y : zG) (v1 : Int32) (s : zS) : zM Y yX7_keepIfAny cX7_keepIfAny 2 (some .int) (zR 2 100) [.ref (zy_a Y 0), .int v1] s zrI (f_X7_keepIfAny v1 s) := by
  refine zm_start (by decide +kernel) (Nat.le_of_ble_eq_true rfl) ?_
  intro X hY hT hX
  subst hY
  have hX : zx_ok X cX7_keepIfAny RX7 2 := hX
  show zV X (zq X zrI) 2 0 [(0, .ref (zx_ad X 0)), (1, .int v1)] [] s _
  unfold f_X7_keepIfAny
  refine zv_iload_n hX dX7_keepIfAny_0 1 rfl ?_
  refine zv_if_le (tgt := 11) hX dX7_keepIfAny_1 rfl ?_ ?_
  · exact zv_sub [1] rfl (b_X7_keepIfAny_11 hX hT v1 s)
  · refine zv_aload_n hX dX7_keepIfAny_4 0 rfl ?_
    refine zv_geta hX wf_X7_68 wc_7 zd_0 zj_0_7 c9_7 zr_0_7 (by decide) dX7_keepIfAny_5 ?_
    refine zv_cVV [] (rest := []) hX hT.2.2.2.2 (c_X2_keep (zx_Y X) s) wv_X2_keep c9_2 zd_73 wm_X7_155 rfl (Nat.le_of_ble_eq_true rfl) (Nat.le_of_ble_eq_true rfl) rfl (Nat.le_of_ble_eq_true rfl) dX7_keepIfAny_8 (fun _ s1 => ?_)
    exact zv_sub [1] rfl (b_X7_keepIfAny_11 hX hT v1 s1)
theorem dX7_largest_0 : decode cX7_largest 0 = .ok (.iconst 4, 1) := by decide +kernel
theorem dX7_largest_1 : decode cX7_largest 1 = .ok (.istore_n 1, 1) := by decide +kernel
theorem dX7_largest_2 : decode cX7_largest 2 = .ok (.iload_n 1, 1) := by decide +kernel
theorem dX7_largest_3 : decode cX7_largest 3 = .ok (.iconst 1, 1) := by decide +kernel
theorem dX7_largest_4 : decode cX7_largest 4 = .ok (.if_icmp .lt 49, 3) := by decide +kernel
theorem dX7_largest_7 : decode cX7_largest 7 = .ok (.iconst 1, 1) := by decide +kernel
theorem dX7_largest_8 : decode cX7_largest 8 = .ok (.istore_n 2, 1) := by decide +kernel
theorem dX7_largest_9 : decode cX7_largest 9 = .ok (.iload_n 2, 1) := by decide +kernel
theorem dX7_largest_10 : decode cX7_largest 10 = .ok (.aload_n 0, 1) := by decide +kernel
theorem dX7_largest_11 : decode cX7_largest 11 = .ok (.getfield 20, 3) := by decide +kernel
theorem dX7_largest_14 : decode cX7_largest 14 = .ok (.invokevirtual 208, 3) := by decide +kernel
theorem dX7_largest_17 : decode cX7_largest 17 = .ok (.if_icmp .gt 30, 3) := by decide +kernel
theorem dX7_largest_20 : decode cX7_largest 20 = .ok (.iload_n 2, 1) := by decide +kernel
theorem dX7_largest_21 : decode cX7_largest 21 = .ok (.invokestatic 116, 3) := by decide +kernel
theorem dX7_largest_24 : decode cX7_largest 24 = .ok (.iload_n 1, 1) := by decide +kernel
theorem dX7_largest_25 : decode cX7_largest 25 = .ok (.if_icmp .ne 16, 3) := by decide +kernel
theorem dX7_largest_28 : decode cX7_largest 28 = .ok (.aload_n 0, 1) := by decide +kernel
theorem dX7_largest_29 : decode cX7_largest 29 = .ok (.getfield 36, 3) := by decide +kernel
theorem dX7_largest_32 : decode cX7_largest 32 = .ok (.iload_n 2, 1) := by decide +kernel
theorem dX7_largest_33 : decode cX7_largest 33 = .ok (.invokevirtual 247, 3) := by decide +kernel
theorem dX7_largest_36 : decode cX7_largest 36 = .ok (.ifCond .eq 5, 3) := by decide +kernel
theorem dX7_largest_39 : decode cX7_largest 39 = .ok (.iload_n 2, 1) := by decide +kernel
theorem dX7_largest_40 : decode cX7_largest 40 = .ok (.ireturn, 1) := by decide +kernel
theorem dX7_largest_41 : decode cX7_largest 41 = .ok (.iinc 2 1, 3) := by decide +kernel
theorem dX7_largest_44 : decode cX7_largest 44 = .ok (.goto (-35), 3) := by decide +kernel
theorem dX7_largest_47 : decode cX7_largest 47 = .ok (.iinc 1 (-1), 3) := by decide +kernel
theorem dX7_largest_50 : decode cX7_largest 50 = .ok (.goto (-48), 3) := by decide +kernel
theorem dX7_largest_53 : decode cX7_largest 53 = .ok (.iconst 0, 1) := by decide +kernel
theorem dX7_largest_54 : decode cX7_largest 54 = .ok (.ireturn, 1) := by decide +kernel
def f_X7_largest_41 (kb_2 : Int32 → zS → Option (Int32 × zS)) (kb_9 : Int32 → Int32 → zS → Option (Int32 × zS)) (v1 : Int32) (v2 : Int32) (s : zS) : Option (Int32 × zS) :=
  zb (v2 + (1 : Int32)) fun x1 =>
  kb_9 v1 x1 s
set_option maxRecDepth 20000 in
theorem b_X7_largest_41 {X : zX} {kb_2 : Int32 → zS → Option (Int32 × zS)} {kb_9 : Int32 → Int32 → zS → Option (Int32 × zS)} (hX : zx_ok X cX7_largest RX7 3) (hT : zx_rt X (some .int) (zR 68 1750)) (hk_2 : ∀ (v1 : Int32) (s : zS), zV X (zq X zrI) 3 2 [(0, .ref (zx_ad X 0)), (1, .int v1)] [] s (kb_2 v1 s)) (hk_9 : ∀ (v1 : Int32) (v2 : Int32) (s : zS), zV X (zq X zrI) 3 9 [(0, .ref (zx_ad X 0)), (1, .int v1), (2, .int v2)] [] s (kb_9 v1 v2 s)) : ∀ (v1 : Int32) (v2 : Int32) (s : zS), zV X (zq X zrI) 3 41 [(0, .ref (zx_ad X 0)), (1, .int v1), (2, .int v2)] [] s (f_X7_largest_41 kb_2 kb_9 v1 v2 s) := by
  intro v1 v2 s
  unfold f_X7_largest_41
  refine zv_iincB (lw := fun x1 => [(2, .int x1), (0, .ref (zx_ad X 0)), (1, .int v1)]) hX dX7_largest_41 2 rfl zi_i_1 (by decide) (fun _ => rfl) (fun x1 => ?_)
  refine zv_goto (tgt := 9) hX dX7_largest_44 rfl ?_
  exact zv_sub [1, 2, 0] rfl (hk_9 v1 x1 s)
def f_X7_largest_9 (kb_2 : Int32 → zS → Option (Int32 × zS)) : Nat → Int32 → Int32 → zS → Option (Int32 × zS)
  | 0, _, _, _ => none
  | n + 1, v1, v2, s =>
    zbd (f_X5_everybody_3 s) fun r2 s3 =>
    if r2 < v2 then
    (zb (v1 + (-1 : Int32)) fun x4 =>
    kb_2 x4 s3)
    else
    zbd (f_J6_bitCount_0f7a4 v2 s3) fun r5 s6 =>
    if ¬ r5 = v1 then
    (f_X7_largest_41 kb_2 (f_X7_largest_9 kb_2 n) v1 v2 s6)
    else
    zbd (f_X4_isFitting v2 s6) fun r7 s8 =>
    if r7 = 0 then
    (f_X7_largest_41 kb_2 (f_X7_largest_9 kb_2 n) v1 v2 s8)
    else
    some (v2, s8)
set_option maxRecDepth 20000 in
theorem b_X7_largest_9 {X : zX} {kb_2 : Int32 → zS → Option (Int32 × zS)} (hX : zx_ok X cX7_largest RX7 3) (hT : zx_rt X (some .int) (zR 68 1750)) (hk_2 : ∀ (v1 : Int32) (s : zS), zV X (zq X zrI) 3 2 [(0, .ref (zx_ad X 0)), (1, .int v1)] [] s (kb_2 v1 s)) : ∀ (n : Nat) (v1 : Int32) (v2 : Int32) (s : zS), zV X (zq X zrI) 3 9 [(0, .ref (zx_ad X 0)), (1, .int v1), (2, .int v2)] [] s (f_X7_largest_9 kb_2 n v1 v2 s) := by
  intro n
  induction n with
  | zero => intro v1 v2 s; exact zv_none
  | succ n ih =>
    intro v1 v2 s
    rw [f_X7_largest_9]
    refine zv_iload_n hX dX7_largest_9 2 rfl ?_
    refine zv_aload_n hX dX7_largest_10 0 rfl ?_
    refine zv_geta hX wf_X7_20 wc_7 zd_0 zj_0_2 c9_7 zr_0_2 (by decide) dX7_largest_11 ?_
    refine zv_cVI [] (rest := [.int v2]) hX hT.2.2.2.2 (c_X5_everybody_3 (zx_Y X) s) wv_X5_everybody c9_5 zd_3 wm_X7_208 rfl (Nat.le_of_ble_eq_true rfl) (Nat.le_of_ble_eq_true rfl) rfl (Nat.le_of_ble_eq_true rfl) dX7_largest_14 (fun r2 s3 => ?_)
    refine zv_icmp_gt (tgt := 47) hX dX7_largest_17 rfl ?_ ?_
    · refine zv_iincB (lw := fun x4 => [(1, .int x4), (0, .ref (zx_ad X 0)), (2, .int v2)]) hX dX7_largest_47 1 rfl zi_i_m1 (by decide) (fun _ => rfl) (fun x4 => ?_)
      refine zv_goto (tgt := 2) hX dX7_largest_50 rfl ?_
      exact zv_sub [1, 0] rfl (hk_2 x4 s3)
    · refine zv_iload_n hX dX7_largest_20 2 rfl ?_
      refine zv_cSI [.int v2] (rest := []) hX hT.2.2.2.2 (c_J6_bitCount_0f7a4 (zx_Y X) v2 s3) wv_J6_bitCount_0f7a4 wm_X7_116 rfl (Nat.le_of_ble_eq_true rfl) (Nat.le_of_ble_eq_true rfl) rfl (Nat.le_of_ble_eq_true rfl) dX7_largest_21 (fun r5 s6 => ?_)
      refine zv_iload_n hX dX7_largest_24 1 rfl ?_
      refine zv_icmp_ne (tgt := 41) hX dX7_largest_25 rfl ?_ ?_
      · exact b_X7_largest_41 hX hT hk_2 ih v1 v2 s6
      · refine zv_aload_n hX dX7_largest_28 0 rfl ?_
        refine zv_geta hX wf_X7_36 wc_7 zd_0 zj_0_4 c9_7 zr_0_4 (by decide) dX7_largest_29 ?_
        refine zv_iload_n hX dX7_largest_32 2 rfl ?_
        refine zv_cVI [.int v2] (rest := []) hX hT.2.2.2.2 (c_X4_isFitting (zx_Y X) v2 s6) wv_X4_isFitting c9_4 zd_42 wm_X7_247 rfl (Nat.le_of_ble_eq_true rfl) (Nat.le_of_ble_eq_true rfl) rfl (Nat.le_of_ble_eq_true rfl) dX7_largest_33 (fun r7 s8 => ?_)
        refine zv_if_eq (tgt := 41) hX dX7_largest_36 rfl ?_ ?_
        · exact b_X7_largest_41 hX hT hk_2 ih v1 v2 s8
        · refine zv_iload_n hX dX7_largest_39 2 rfl ?_
          exact zv_ireti hX hT dX7_largest_40
def f_X7_largest_2 : Nat → Int32 → zS → Option (Int32 × zS)
  | 0, _, _ => none
  | n + 1, v1, s =>
    if v1 < (1 : Int32) then
    (some ((0 : Int32), s))
    else
    f_X7_largest_9 (f_X7_largest_2 n) zFU v1 (1 : Int32) s
set_option maxRecDepth 20000 in
theorem b_X7_largest_2 {X : zX} (hX : zx_ok X cX7_largest RX7 3) (hT : zx_rt X (some .int) (zR 68 1750)) : ∀ (n : Nat) (v1 : Int32) (s : zS), zV X (zq X zrI) 3 2 [(0, .ref (zx_ad X 0)), (1, .int v1)] [] s (f_X7_largest_2 n v1 s) := by
  intro n
  induction n with
  | zero => intro v1 s; exact zv_none
  | succ n ih =>
    intro v1 s
    rw [f_X7_largest_2]
    refine zv_iload_n hX dX7_largest_2 1 rfl ?_
    refine zv_iconst (v := (1 : Int32)) hX dX7_largest_3 zi_i_1 ?_
    refine zv_icmp_lt (tgt := 53) hX dX7_largest_4 rfl ?_ ?_
    · refine zv_iconst (v := (0 : Int32)) hX dX7_largest_53 zi_i_0 ?_
      exact zv_ireti hX hT dX7_largest_54
    · refine zv_iconst (v := (1 : Int32)) hX dX7_largest_7 zi_i_1 ?_
      refine zv_istore_n (lv' := [(2, .int (1 : Int32)), (0, .ref (zx_ad X 0)), (1, .int v1)]) hX dX7_largest_8 (by decide) rfl ?_
      exact zv_sub [1, 2, 0] rfl (b_X7_largest_9 hX hT ih zFU v1 (1 : Int32) s)
def f_X7_largest  (s : zS) : Option (Int32 × zS) :=
  f_X7_largest_2 zFU (nI 4) s
set_option maxRecDepth 20000 in
theorem c_X7_largest (Y : zG)  (s : zS) : zM Y yX7_largest cX7_largest 3 (some .int) (zR 68 1750) [.ref (zy_a Y 0)] s zrI (f_X7_largest  s) := by
  refine zm_start (by decide +kernel) (Nat.le_of_ble_eq_true rfl) ?_
  intro X hY hT hX
  subst hY
  have hX : zx_ok X cX7_largest RX7 3 := hX
  show zV X (zq X zrI) 3 0 [(0, .ref (zx_ad X 0))] [] s _
  unfold f_X7_largest
  refine zv_iconst (v := (nI 4)) hX dX7_largest_0 zi_i_4 ?_
  refine zv_istore_n (lv' := [(1, .int (nI 4)), (0, .ref (zx_ad X 0))]) hX dX7_largest_1 (by decide) rfl ?_
  exact zv_sub [1, 0] rfl (b_X7_largest_2 hX hT zFU (nI 4) s)
theorem dX7_lasts_0 : decode cX7_lasts 0 = .ok (.aload_n 0, 1) := by decide +kernel
theorem dX7_lasts_1 : decode cX7_lasts 1 = .ok (.getfield 20, 3) := by decide +kernel
theorem dX7_lasts_4 : decode cX7_lasts 4 = .ok (.iload_n 1, 1) := by decide +kernel
theorem dX7_lasts_5 : decode cX7_lasts 5 = .ok (.invokevirtual 238, 3) := by decide +kernel
theorem dX7_lasts_8 : decode cX7_lasts 8 = .ok (.ifCond .ne 6, 3) := by decide +kernel
theorem dX7_lasts_11 : decode cX7_lasts 11 = .ok (.bipush (-3), 2) := by decide +kernel
theorem dX7_lasts_13 : decode cX7_lasts 13 = .ok (.ireturn, 1) := by decide +kernel
theorem dX7_lasts_14 : decode cX7_lasts 14 = .ok (.aload_n 0, 1) := by decide +kernel
theorem dX7_lasts_15 : decode cX7_lasts 15 = .ok (.getfield 36, 3) := by decide +kernel
theorem dX7_lasts_18 : decode cX7_lasts 18 = .ok (.iload_n 1, 1) := by decide +kernel
theorem dX7_lasts_19 : decode cX7_lasts 19 = .ok (.invokevirtual 300, 3) := by decide +kernel
theorem dX7_lasts_22 : decode cX7_lasts 22 = .ok (.aload_n 0, 1) := by decide +kernel
theorem dX7_lasts_23 : decode cX7_lasts 23 = .ok (.getfield 36, 3) := by decide +kernel
theorem dX7_lasts_26 : decode cX7_lasts 26 = .ok (.getfield 303, 3) := by decide +kernel
theorem dX7_lasts_29 : decode cX7_lasts 29 = .ok (.iload_n 1, 1) := by decide +kernel
theorem dX7_lasts_30 : decode cX7_lasts 30 = .ok (.iaload, 1) := by decide +kernel
theorem dX7_lasts_31 : decode cX7_lasts 31 = .ok (.ireturn, 1) := by decide +kernel
def f_X7_lasts (v1 : Int32) (s : zS) : Option (Int32 × zS) :=
  zbd (f_X5_hasAll_3 v1 s) fun r1 s2 =>
  if ¬ r1 = 0 then
  (zbd (f_X4_learnTurns v1 s2) fun _ s3 =>
  (zr_i s3 52 v1).bind fun x4 =>
  some (x4, s3))
  else
  some ((-3 : Int32), s2)
set_option maxRecDepth 20000 in
theorem c_X7_lasts (Y : zG) (v1 : Int32) (s : zS) : zM Y yX7_lasts cX7_lasts 2 (some .int) (zR 70 1797) [.ref (zy_a Y 0), .int v1] s zrI (f_X7_lasts v1 s) := by
  refine zm_start (by decide +kernel) (Nat.le_of_ble_eq_true rfl) ?_
  intro X hY hT hX
  subst hY
  have hX : zx_ok X cX7_lasts RX7 2 := hX
  show zV X (zq X zrI) 2 0 [(0, .ref (zx_ad X 0)), (1, .int v1)] [] s _
  unfold f_X7_lasts
  refine zv_aload_n hX dX7_lasts_0 0 rfl ?_
  refine zv_geta hX wf_X7_20 wc_7 zd_0 zj_0_2 c9_7 zr_0_2 (by decide) dX7_lasts_1 ?_
  refine zv_iload_n hX dX7_lasts_4 1 rfl ?_
  refine zv_cVI [.int v1] (rest := []) hX hT.2.2.2.2 (c_X5_hasAll_3 (zx_Y X) v1 s) wv_X5_hasAll c9_5 zd_3 wm_X7_238 rfl (Nat.le_of_ble_eq_true rfl) (Nat.le_of_ble_eq_true rfl) rfl (Nat.le_of_ble_eq_true rfl) dX7_lasts_5 (fun r1 s2 => ?_)
  refine zv_if_ne (tgt := 14) hX dX7_lasts_8 rfl ?_ ?_
  · refine zv_aload_n hX dX7_lasts_14 0 rfl ?_
    refine zv_geta hX wf_X7_36 wc_7 zd_0 zj_0_4 c9_7 zr_0_4 (by decide) dX7_lasts_15 ?_
    refine zv_iload_n hX dX7_lasts_18 1 rfl ?_
    refine zv_cVV [.int v1] (rest := []) hX hT.2.2.2.2 (c_X4_learnTurns (zx_Y X) v1 s2) wv_X4_learnTurns c9_4 zd_42 wm_X7_300 rfl (Nat.le_of_ble_eq_true rfl) (Nat.le_of_ble_eq_true rfl) rfl (Nat.le_of_ble_eq_true rfl) dX7_lasts_19 (fun _ s3 => ?_)
    refine zv_aload_n hX dX7_lasts_22 0 rfl ?_
    refine zv_geta hX wf_X7_36 wc_7 zd_0 zj_0_4 c9_7 zr_0_4 (by decide) dX7_lasts_23 ?_
    refine zv_geta hX wf_X7_303 wc_4 zd_42 zj_42_10 c9_4 zr_42_10 (by decide) dX7_lasts_26 ?_
    refine zv_iload_n hX dX7_lasts_29 1 rfl ?_
    refine zv_iald hX dX7_lasts_30 (fun x4 => ?_)
    exact zv_ireti hX hT dX7_lasts_31
  · refine zv_bipush (v := (-3 : Int32)) hX dX7_lasts_11 zi_b_m3 ?_
    exact zv_ireti hX hT dX7_lasts_13
theorem dX7_likeliest_0 : decode cX7_likeliest 0 = .ok (.aload_n 0, 1) := by decide +kernel
theorem dX7_likeliest_1 : decode cX7_likeliest 1 = .ok (.getfield 20, 3) := by decide +kernel
theorem dX7_likeliest_4 : decode cX7_likeliest 4 = .ok (.iload_n 1, 1) := by decide +kernel
theorem dX7_likeliest_5 : decode cX7_likeliest 5 = .ok (.invokevirtual 108, 3) := by decide +kernel
theorem dX7_likeliest_8 : decode cX7_likeliest 8 = .ok (.ifCond .ne 6, 3) := by decide +kernel
theorem dX7_likeliest_11 : decode cX7_likeliest 11 = .ok (.bipush (-2), 2) := by decide +kernel
theorem dX7_likeliest_13 : decode cX7_likeliest 13 = .ok (.ireturn, 1) := by decide +kernel
theorem dX7_likeliest_14 : decode cX7_likeliest 14 = .ok (.aload_n 0, 1) := by decide +kernel
theorem dX7_likeliest_15 : decode cX7_likeliest 15 = .ok (.getfield 45, 3) := by decide +kernel
theorem dX7_likeliest_18 : decode cX7_likeliest 18 = .ok (.invokevirtual 306, 3) := by decide +kernel
theorem dX7_likeliest_21 : decode cX7_likeliest 21 = .ok (.iconst (-1), 1) := by decide +kernel
theorem dX7_likeliest_22 : decode cX7_likeliest 22 = .ok (.istore_n 2, 1) := by decide +kernel
theorem dX7_likeliest_23 : decode cX7_likeliest 23 = .ok (.iconst 0, 1) := by decide +kernel
theorem dX7_likeliest_24 : decode cX7_likeliest 24 = .ok (.istore_n 3, 1) := by decide +kernel
theorem dX7_likeliest_25 : decode cX7_likeliest 25 = .ok (.iconst 0, 1) := by decide +kernel
theorem dX7_likeliest_26 : decode cX7_likeliest 26 = .ok (.istore 4, 2) := by decide +kernel
theorem dX7_likeliest_28 : decode cX7_likeliest 28 = .ok (.iload 4, 2) := by decide +kernel
theorem dX7_likeliest_30 : decode cX7_likeliest 30 = .ok (.aload_n 0, 1) := by decide +kernel
theorem dX7_likeliest_31 : decode cX7_likeliest 31 = .ok (.getfield 20, 3) := by decide +kernel
theorem dX7_likeliest_34 : decode cX7_likeliest 34 = .ok (.getfield 215, 3) := by decide +kernel
theorem dX7_likeliest_37 : decode cX7_likeliest 37 = .ok (.if_icmp .ge 38, 3) := by decide +kernel
theorem dX7_likeliest_40 : decode cX7_likeliest 40 = .ok (.aload_n 0, 1) := by decide +kernel
theorem dX7_likeliest_41 : decode cX7_likeliest 41 = .ok (.getfield 45, 3) := by decide +kernel
theorem dX7_likeliest_44 : decode cX7_likeliest 44 = .ok (.getfield 309, 3) := by decide +kernel
theorem dX7_likeliest_47 : decode cX7_likeliest 47 = .ok (.iload_n 1, 1) := by decide +kernel
theorem dX7_likeliest_48 : decode cX7_likeliest 48 = .ok (.bipush 7, 2) := by decide +kernel
theorem dX7_likeliest_50 : decode cX7_likeliest 50 = .ok (.imul, 1) := by decide +kernel
theorem dX7_likeliest_51 : decode cX7_likeliest 51 = .ok (.iload 4, 2) := by decide +kernel
theorem dX7_likeliest_53 : decode cX7_likeliest 53 = .ok (.iadd, 1) := by decide +kernel
theorem dX7_likeliest_54 : decode cX7_likeliest 54 = .ok (.iaload, 1) := by decide +kernel
theorem dX7_likeliest_55 : decode cX7_likeliest 55 = .ok (.istore 5, 2) := by decide +kernel
theorem dX7_likeliest_57 : decode cX7_likeliest 57 = .ok (.iload 5, 2) := by decide +kernel
theorem dX7_likeliest_59 : decode cX7_likeliest 59 = .ok (.iload_n 3, 1) := by decide +kernel
theorem dX7_likeliest_60 : decode cX7_likeliest 60 = .ok (.if_icmp .le 9, 3) := by decide +kernel
theorem dX7_likeliest_63 : decode cX7_likeliest 63 = .ok (.iload 5, 2) := by decide +kernel
theorem dX7_likeliest_65 : decode cX7_likeliest 65 = .ok (.istore_n 3, 1) := by decide +kernel
theorem dX7_likeliest_66 : decode cX7_likeliest 66 = .ok (.iload 4, 2) := by decide +kernel
theorem dX7_likeliest_68 : decode cX7_likeliest 68 = .ok (.istore_n 2, 1) := by decide +kernel
theorem dX7_likeliest_69 : decode cX7_likeliest 69 = .ok (.iinc 4 1, 3) := by decide +kernel
theorem dX7_likeliest_72 : decode cX7_likeliest 72 = .ok (.goto (-44), 3) := by decide +kernel
theorem dX7_likeliest_75 : decode cX7_likeliest 75 = .ok (.iload_n 2, 1) := by decide +kernel
theorem dX7_likeliest_76 : decode cX7_likeliest 76 = .ok (.ireturn, 1) := by decide +kernel
def f_X7_likeliest_69 (kb_28 : Int32 → Int32 → Int32 → Int32 → zS → Option (Int32 × zS)) (v1 : Int32) (v2 : Int32) (v3 : Int32) (v4 : Int32) (s : zS) : Option (Int32 × zS) :=
  zb (v4 + (1 : Int32)) fun x1 =>
  kb_28 v1 v2 v3 x1 s
set_option maxRecDepth 20000 in
theorem b_X7_likeliest_69 {X : zX} {kb_28 : Int32 → Int32 → Int32 → Int32 → zS → Option (Int32 × zS)} (hX : zx_ok X cX7_likeliest RX7 6) (hT : zx_rt X (some .int) (zR 70 1740)) (hk_28 : ∀ (v1 : Int32) (v2 : Int32) (v3 : Int32) (v4 : Int32) (s : zS), zV X (zq X zrI) 6 28 [(0, .ref (zx_ad X 0)), (1, .int v1), (2, .int v2), (3, .int v3), (4, .int v4)] [] s (kb_28 v1 v2 v3 v4 s)) : ∀ (v1 : Int32) (v2 : Int32) (v3 : Int32) (v4 : Int32) (s : zS), zV X (zq X zrI) 6 69 [(0, .ref (zx_ad X 0)), (1, .int v1), (2, .int v2), (3, .int v3), (4, .int v4)] [] s (f_X7_likeliest_69 kb_28 v1 v2 v3 v4 s) := by
  intro v1 v2 v3 v4 s
  unfold f_X7_likeliest_69
  refine zv_iincB (lw := fun x1 => [(4, .int x1), (0, .ref (zx_ad X 0)), (1, .int v1), (2, .int v2), (3, .int v3)]) hX dX7_likeliest_69 4 rfl zi_i_1 (by decide) (fun _ => rfl) (fun x1 => ?_)
  refine zv_goto (tgt := 28) hX dX7_likeliest_72 rfl ?_
  exact zv_sub [1, 2, 3, 4, 0] rfl (hk_28 v1 v2 v3 x1 s)
def f_X7_likeliest_28 : Nat → Int32 → Int32 → Int32 → Int32 → zS → Option (Int32 × zS)
  | 0, _, _, _, _, _ => none
  | n + 1, v1, v2, v3, v4, s =>
    if (s.1 3 0) ≤ v4 then
    (some (v2, s))
    else
    (zr_i s 66 ((v1 * (nI 7)) + v4)).bind fun x2 =>
    if x2 ≤ v3 then
    (f_X7_likeliest_69 (f_X7_likeliest_28 n) v1 v2 v3 v4 s)
    else
    f_X7_likeliest_69 (f_X7_likeliest_28 n) v1 v4 x2 v4 s
set_option maxRecDepth 20000 in
theorem b_X7_likeliest_28 {X : zX} (hX : zx_ok X cX7_likeliest RX7 6) (hT : zx_rt X (some .int) (zR 70 1740)) : ∀ (n : Nat) (v1 : Int32) (v2 : Int32) (v3 : Int32) (v4 : Int32) (s : zS), zV X (zq X zrI) 6 28 [(0, .ref (zx_ad X 0)), (1, .int v1), (2, .int v2), (3, .int v3), (4, .int v4)] [] s (f_X7_likeliest_28 n v1 v2 v3 v4 s) := by
  intro n
  induction n with
  | zero => intro v1 v2 v3 v4 s; exact zv_none
  | succ n ih =>
    intro v1 v2 v3 v4 s
    rw [f_X7_likeliest_28]
    refine zv_iload hX dX7_likeliest_28 4 rfl ?_
    refine zv_aload_n hX dX7_likeliest_30 0 rfl ?_
    refine zv_geta hX wf_X7_20 wc_7 zd_0 zj_0_2 c9_7 zr_0_2 (by decide) dX7_likeliest_31 ?_
    refine zv_geti hX wf_X7_215 wc_5 zd_3 zj_3_0 c9_5 zr_3_0 dX7_likeliest_34 ?_
    refine zv_icmp_ge (tgt := 75) hX dX7_likeliest_37 rfl ?_ ?_
    · refine zv_iload_n hX dX7_likeliest_75 2 rfl ?_
      exact zv_ireti hX hT dX7_likeliest_76
    · refine zv_aload_n hX dX7_likeliest_40 0 rfl ?_
      refine zv_geta hX wf_X7_45 wc_7 zd_0 zj_0_5 c9_7 zr_0_5 (by decide) dX7_likeliest_41 ?_
      refine zv_geta hX wf_X7_309 wc_0 zd_60 zj_60_11 c9_0 zr_60_11 (by decide) dX7_likeliest_44 ?_
      refine zv_iload_n hX dX7_likeliest_47 1 rfl ?_
      refine zv_bipush (v := (nI 7)) hX dX7_likeliest_48 zi_b_7 ?_
      refine zv_imul hX dX7_likeliest_50 ?_
      refine zv_iload hX dX7_likeliest_51 4 rfl ?_
      refine zv_iadd hX dX7_likeliest_53 ?_
      refine zv_iald hX dX7_likeliest_54 (fun x2 => ?_)
      refine zv_istore (lv' := [(5, .int x2), (0, .ref (zx_ad X 0)), (1, .int v1), (2, .int v2), (3, .int v3), (4, .int v4)]) hX dX7_likeliest_55 (by decide) rfl ?_
      refine zv_iload hX dX7_likeliest_57 0 rfl ?_
      refine zv_iload_n hX dX7_likeliest_59 4 rfl ?_
      refine zv_icmp_le (tgt := 69) hX dX7_likeliest_60 rfl ?_ ?_
      · exact zv_sub [1, 2, 3, 4, 5] rfl (b_X7_likeliest_69 hX hT ih v1 v2 v3 v4 s)
      · refine zv_iload hX dX7_likeliest_63 0 rfl ?_
        refine zv_istore_n (lv' := [(3, .int x2), (5, .int x2), (0, .ref (zx_ad X 0)), (1, .int v1), (2, .int v2), (4, .int v4)]) hX dX7_likeliest_65 (by decide) rfl ?_
        refine zv_iload hX dX7_likeliest_66 5 rfl ?_
        refine zv_istore_n (lv' := [(2, .int v4), (3, .int x2), (5, .int x2), (0, .ref (zx_ad X 0)), (1, .int v1), (4, .int v4)]) hX dX7_likeliest_68 (by decide) rfl ?_
        exact zv_sub [3, 4, 0, 1, 5] rfl (b_X7_likeliest_69 hX hT ih v1 v4 x2 v4 s)
def f_X7_likeliest (v1 : Int32) (s : zS) : Option (Int32 × zS) :=
  zbd (f_X5_has_3 v1 s) fun r3 s4 =>
  if ¬ r3 = 0 then
  (zbd (f_X0_learnChances s4) fun _ s5 =>
  f_X7_likeliest_28 zFU v1 (-1 : Int32) (0 : Int32) (0 : Int32) s5)
  else
  some ((-2 : Int32), s4)
set_option maxRecDepth 20000 in
theorem c_X7_likeliest (Y : zG) (v1 : Int32) (s : zS) : zM Y yX7_likeliest cX7_likeliest 6 (some .int) (zR 70 1740) [.ref (zy_a Y 0), .int v1] s zrI (f_X7_likeliest v1 s) := by
  refine zm_start (by decide +kernel) (Nat.le_of_ble_eq_true rfl) ?_
  intro X hY hT hX
  subst hY
  have hX : zx_ok X cX7_likeliest RX7 6 := hX
  show zV X (zq X zrI) 6 0 [(0, .ref (zx_ad X 0)), (1, .int v1)] [] s _
  unfold f_X7_likeliest
  refine zv_aload_n hX dX7_likeliest_0 0 rfl ?_
  refine zv_geta hX wf_X7_20 wc_7 zd_0 zj_0_2 c9_7 zr_0_2 (by decide) dX7_likeliest_1 ?_
  refine zv_iload_n hX dX7_likeliest_4 1 rfl ?_
  refine zv_cVI [.int v1] (rest := []) hX hT.2.2.2.2 (c_X5_has_3 (zx_Y X) v1 s) wv_X5_has c9_5 zd_3 wm_X7_108 rfl (Nat.le_of_ble_eq_true rfl) (Nat.le_of_ble_eq_true rfl) rfl (Nat.le_of_ble_eq_true rfl) dX7_likeliest_5 (fun r3 s4 => ?_)
  refine zv_if_ne (tgt := 14) hX dX7_likeliest_8 rfl ?_ ?_
  · refine zv_aload_n hX dX7_likeliest_14 0 rfl ?_
    refine zv_geta hX wf_X7_45 wc_7 zd_0 zj_0_5 c9_7 zr_0_5 (by decide) dX7_likeliest_15 ?_
    refine zv_cVV [] (rest := []) hX hT.2.2.2.2 (c_X0_learnChances (zx_Y X) s4) wv_X0_learnChances c9_0 zd_60 wm_X7_306 rfl (Nat.le_of_ble_eq_true rfl) (Nat.le_of_ble_eq_true rfl) rfl (Nat.le_of_ble_eq_true rfl) dX7_likeliest_18 (fun _ s5 => ?_)
    refine zv_iconst (v := (-1 : Int32)) hX dX7_likeliest_21 zi_i_m1 ?_
    refine zv_istore_n (lv' := [(2, .int (-1 : Int32)), (0, .ref (zx_ad X 0)), (1, .int v1)]) hX dX7_likeliest_22 (by decide) rfl ?_
    refine zv_iconst (v := (0 : Int32)) hX dX7_likeliest_23 zi_i_0 ?_
    refine zv_istore_n (lv' := [(3, .int (0 : Int32)), (2, .int (-1 : Int32)), (0, .ref (zx_ad X 0)), (1, .int v1)]) hX dX7_likeliest_24 (by decide) rfl ?_
    refine zv_iconst (v := (0 : Int32)) hX dX7_likeliest_25 zi_i_0 ?_
    refine zv_istore (lv' := [(4, .int (0 : Int32)), (3, .int (0 : Int32)), (2, .int (-1 : Int32)), (0, .ref (zx_ad X 0)), (1, .int v1)]) hX dX7_likeliest_26 (by decide) rfl ?_
    exact zv_sub [3, 4, 2, 1, 0] rfl (b_X7_likeliest_28 hX hT zFU v1 (-1 : Int32) (0 : Int32) (0 : Int32) s5)
  · refine zv_bipush (v := (-2 : Int32)) hX dX7_likeliest_11 zi_b_m2 ?_
    exact zv_ireti hX hT dX7_likeliest_13
theorem dX7_likely_0 : decode cX7_likely 0 = .ok (.aload_n 0, 1) := by decide +kernel
theorem dX7_likely_1 : decode cX7_likely 1 = .ok (.getfield 52, 3) := by decide +kernel
theorem dX7_likely_4 : decode cX7_likely 4 = .ok (.iload_n 1, 1) := by decide +kernel
theorem dX7_likely_5 : decode cX7_likely 5 = .ok (.invokevirtual 177, 3) := by decide +kernel
theorem dX7_likely_8 : decode cX7_likely 8 = .ok (.ifCond .eq 23, 3) := by decide +kernel
theorem dX7_likely_11 : decode cX7_likely 11 = .ok (.aload_n 0, 1) := by decide +kernel
theorem dX7_likely_12 : decode cX7_likely 12 = .ok (.getfield 20, 3) := by decide +kernel
theorem dX7_likely_15 : decode cX7_likely 15 = .ok (.iload_n 2, 1) := by decide +kernel
theorem dX7_likely_16 : decode cX7_likely 16 = .ok (.invokevirtual 108, 3) := by decide +kernel
theorem dX7_likely_19 : decode cX7_likely 19 = .ok (.ifCond .eq 12, 3) := by decide +kernel
theorem dX7_likely_22 : decode cX7_likely 22 = .ok (.iload_n 3, 1) := by decide +kernel
theorem dX7_likely_23 : decode cX7_likely 23 = .ok (.ifCond .lt 8, 3) := by decide +kernel
theorem dX7_likely_26 : decode cX7_likely 26 = .ok (.iload_n 3, 1) := by decide +kernel
theorem dX7_likely_27 : decode cX7_likely 27 = .ok (.iconst 1, 1) := by decide +kernel
theorem dX7_likely_28 : decode cX7_likely 28 = .ok (.if_icmp .le 6, 3) := by decide +kernel
theorem dX7_likely_31 : decode cX7_likely 31 = .ok (.bipush (-2), 2) := by decide +kernel
theorem dX7_likely_33 : decode cX7_likely 33 = .ok (.ireturn, 1) := by decide +kernel
theorem dX7_likely_34 : decode cX7_likely 34 = .ok (.aload_n 0, 1) := by decide +kernel
theorem dX7_likely_35 : decode cX7_likely 35 = .ok (.iload_n 1, 1) := by decide +kernel
theorem dX7_likely_36 : decode cX7_likely 36 = .ok (.invokevirtual 256, 3) := by decide +kernel
theorem dX7_likely_39 : decode cX7_likely 39 = .ok (.istore 4, 2) := by decide +kernel
theorem dX7_likely_41 : decode cX7_likely 41 = .ok (.iload 4, 2) := by decide +kernel
theorem dX7_likely_43 : decode cX7_likely 43 = .ok (.ifCond .ge 6, 3) := by decide +kernel
theorem dX7_likely_46 : decode cX7_likely 46 = .ok (.iload 4, 2) := by decide +kernel
theorem dX7_likely_48 : decode cX7_likely 48 = .ok (.ireturn, 1) := by decide +kernel
theorem dX7_likely_49 : decode cX7_likely 49 = .ok (.aload_n 0, 1) := by decide +kernel
theorem dX7_likely_50 : decode cX7_likely 50 = .ok (.getfield 20, 3) := by decide +kernel
theorem dX7_likely_53 : decode cX7_likely 53 = .ok (.iload 4, 2) := by decide +kernel
theorem dX7_likely_55 : decode cX7_likely 55 = .ok (.invokevirtual 271, 3) := by decide +kernel
theorem dX7_likely_58 : decode cX7_likely 58 = .ok (.istore 5, 2) := by decide +kernel
theorem dX7_likely_60 : decode cX7_likely 60 = .ok (.iload 5, 2) := by decide +kernel
theorem dX7_likely_62 : decode cX7_likely 62 = .ok (.ifCond .ne 5, 3) := by decide +kernel
theorem dX7_likely_65 : decode cX7_likely 65 = .ok (.iconst (-1), 1) := by decide +kernel
theorem dX7_likely_66 : decode cX7_likely 66 = .ok (.ireturn, 1) := by decide +kernel
theorem dX7_likely_67 : decode cX7_likely 67 = .ok (.iload 4, 2) := by decide +kernel
theorem dX7_likely_69 : decode cX7_likely 69 = .ok (.iload_n 2, 1) := by decide +kernel
theorem dX7_likely_70 : decode cX7_likely 70 = .ok (.iushr, 1) := by decide +kernel
theorem dX7_likely_71 : decode cX7_likely 71 = .ok (.iconst 1, 1) := by decide +kernel
theorem dX7_likely_72 : decode cX7_likely 72 = .ok (.iand, 1) := by decide +kernel
theorem dX7_likely_73 : decode cX7_likely 73 = .ok (.iconst 1, 1) := by decide +kernel
theorem dX7_likely_74 : decode cX7_likely 74 = .ok (.if_icmp .ne 15, 3) := by decide +kernel
theorem dX7_likely_77 : decode cX7_likely 77 = .ok (.aload_n 0, 1) := by decide +kernel
theorem dX7_likely_78 : decode cX7_likely 78 = .ok (.getfield 20, 3) := by decide +kernel
theorem dX7_likely_81 : decode cX7_likely 81 = .ok (.getfield 128, 3) := by decide +kernel
theorem dX7_likely_84 : decode cX7_likely 84 = .ok (.iload_n 2, 1) := by decide +kernel
theorem dX7_likely_85 : decode cX7_likely 85 = .ok (.iaload, 1) := by decide +kernel
theorem dX7_likely_86 : decode cX7_likely 86 = .ok (.goto 4, 3) := by decide +kernel
theorem dX7_likely_89 : decode cX7_likely 89 = .ok (.iconst 0, 1) := by decide +kernel
theorem dX7_likely_90 : decode cX7_likely 90 = .ok (.istore 6, 2) := by decide +kernel
theorem dX7_likely_92 : decode cX7_likely 92 = .ok (.iload 6, 2) := by decide +kernel
theorem dX7_likely_94 : decode cX7_likely 94 = .ok (.iload 5, 2) := by decide +kernel
theorem dX7_likely_96 : decode cX7_likely 96 = .ok (.iload_n 3, 1) := by decide +kernel
theorem dX7_likely_97 : decode cX7_likely 97 = .ok (.invokestatic 274, 3) := by decide +kernel
theorem dX7_likely_100 : decode cX7_likely 100 = .ok (.ireturn, 1) := by decide +kernel
def f_X7_likely_31  (s : zS) : Option (Int32 × zS) :=
  some ((-2 : Int32), s)
set_option maxRecDepth 20000 in
theorem b_X7_likely_31 {X : zX} (hX : zx_ok X cX7_likely RX7 7) (hT : zx_rt X (some .int) (zR 5 113)) : ∀  (s : zS), zV X (zq X zrI) 7 31 [] [] s (f_X7_likely_31  s) := by
  intro  s
  unfold f_X7_likely_31
  refine zv_bipush (v := (-2 : Int32)) hX dX7_likely_31 zi_b_m2 ?_
  exact zv_ireti hX hT dX7_likely_33
def f_X7_likely_90 (v3 : Int32) (v5 : Int32) (w0 : Int32) (s : zS) : Option (Int32 × zS) :=
  zbd (f_X7_lowestTerm w0 v5 v3 s) fun r1 s2 =>
  some (r1, s2)
set_option maxRecDepth 20000 in
theorem b_X7_likely_90 {X : zX} (hX : zx_ok X cX7_likely RX7 7) (hT : zx_rt X (some .int) (zR 5 113)) : ∀ (v3 : Int32) (v5 : Int32) (w0 : Int32) (s : zS), zV X (zq X zrI) 7 90 [(3, .int v3), (5, .int v5)] [.int w0] s (f_X7_likely_90 v3 v5 w0 s) := by
  intro v3 v5 w0 s
  unfold f_X7_likely_90
  refine zv_istore (lv' := [(6, .int w0), (3, .int v3), (5, .int v5)]) hX dX7_likely_90 (by decide) rfl ?_
  refine zv_iload hX dX7_likely_92 0 rfl ?_
  refine zv_iload hX dX7_likely_94 2 rfl ?_
  refine zv_iload_n hX dX7_likely_96 1 rfl ?_
  refine zv_cSI [.int w0, .int v5, .int v3] (rest := []) hX hT.2.2.2.2 (c_X7_lowestTerm (zx_Y X) w0 v5 v3 s) wv_X7_lowestTerm wm_X7_274 rfl (Nat.le_of_ble_eq_true rfl) (Nat.le_of_ble_eq_true rfl) rfl (Nat.le_of_ble_eq_true rfl) dX7_likely_97 (fun r1 s2 => ?_)
  exact zv_ireti hX hT dX7_likely_100
def f_X7_likely (v1 : Int32) (v2 : Int32) (v3 : Int32) (s : zS) : Option (Int32 × zS) :=
  zbd (f_X6_isOne v1 s) fun r3 s4 =>
  if r3 = 0 then
  (f_X7_likely_31 s4)
  else
  zbd (f_X5_has_3 v2 s4) fun r5 s6 =>
  if r5 = 0 then
  (f_X7_likely_31 s6)
  else
  if v3 < 0 then
  (f_X7_likely_31 s6)
  else
  if v3 ≤ (1 : Int32) then
  (zbd (f_X7_blotted v1 s6) fun r7 s8 =>
  if 0 ≤ r7 then
  (zbd (f_X5_oddsOfSet_3 r7 s8) fun r9 s10 =>
  if ¬ r9 = 0 then
  (if ¬ ((zo_ush r7 v2) &&& (1 : Int32)) = (1 : Int32) then
  (f_X7_likely_90 v3 r9 (0 : Int32) s10)
  else
  (zr_i s10 7 v2).bind fun x11 =>
  f_X7_likely_90 v3 r9 x11 s10)
  else
  some ((-1 : Int32), s10))
  else
  some (r7, s8))
  else
  f_X7_likely_31 s6
set_option maxRecDepth 20000 in
theorem c_X7_likely (Y : zG) (v1 : Int32) (v2 : Int32) (v3 : Int32) (s : zS) : zM Y yX7_likely cX7_likely 7 (some .int) (zR 5 113) [.ref (zy_a Y 0), .int v1, .int v2, .int v3] s zrI (f_X7_likely v1 v2 v3 s) := by
  refine zm_start (by decide +kernel) (Nat.le_of_ble_eq_true rfl) ?_
  intro X hY hT hX
  subst hY
  have hX : zx_ok X cX7_likely RX7 7 := hX
  show zV X (zq X zrI) 7 0 [(0, .ref (zx_ad X 0)), (1, .int v1), (2, .int v2), (3, .int v3)] [] s _
  unfold f_X7_likely
  refine zv_aload_n hX dX7_likely_0 0 rfl ?_
  refine zv_geta hX wf_X7_52 wc_7 zd_0 zj_0_8 c9_7 zr_0_8 (by decide) dX7_likely_1 ?_
  refine zv_iload_n hX dX7_likely_4 1 rfl ?_
  refine zv_cVI [.int v1] (rest := []) hX hT.2.2.2.2 (c_X6_isOne (zx_Y X) v1 s) wv_X6_isOne c9_6 zd_68 wm_X7_177 rfl (Nat.le_of_ble_eq_true rfl) (Nat.le_of_ble_eq_true rfl) rfl (Nat.le_of_ble_eq_true rfl) dX7_likely_5 (fun r3 s4 => ?_)
  refine zv_if_eq (tgt := 31) hX dX7_likely_8 rfl ?_ ?_
  · exact zv_sub [] rfl (b_X7_likely_31 hX hT  s4)
  · refine zv_aload_n hX dX7_likely_11 0 rfl ?_
    refine zv_geta hX wf_X7_20 wc_7 zd_0 zj_0_2 c9_7 zr_0_2 (by decide) dX7_likely_12 ?_
    refine zv_iload_n hX dX7_likely_15 2 rfl ?_
    refine zv_cVI [.int v2] (rest := []) hX hT.2.2.2.2 (c_X5_has_3 (zx_Y X) v2 s4) wv_X5_has c9_5 zd_3 wm_X7_108 rfl (Nat.le_of_ble_eq_true rfl) (Nat.le_of_ble_eq_true rfl) rfl (Nat.le_of_ble_eq_true rfl) dX7_likely_16 (fun r5 s6 => ?_)
    refine zv_if_eq (tgt := 31) hX dX7_likely_19 rfl ?_ ?_
    · exact zv_sub [] rfl (b_X7_likely_31 hX hT  s6)
    · refine zv_iload_n hX dX7_likely_22 3 rfl ?_
      refine zv_if_lt (tgt := 31) hX dX7_likely_23 rfl ?_ ?_
      · exact zv_sub [] rfl (b_X7_likely_31 hX hT  s6)
      · refine zv_iload_n hX dX7_likely_26 3 rfl ?_
        refine zv_iconst (v := (1 : Int32)) hX dX7_likely_27 zi_i_1 ?_
        refine zv_icmp_le (tgt := 34) hX dX7_likely_28 rfl ?_ ?_
        · refine zv_aload_n hX dX7_likely_34 0 rfl ?_
          refine zv_iload_n hX dX7_likely_35 1 rfl ?_
          refine zv_cVI [.int v1] (rest := []) hX hT.2.2.2.2 (c_X7_blotted (zx_Y X) v1 s6) wv_X7_blotted c9_7 zd_0 wm_X7_256 rfl (Nat.le_of_ble_eq_true rfl) (Nat.le_of_ble_eq_true rfl) rfl (Nat.le_of_ble_eq_true rfl) dX7_likely_36 (fun r7 s8 => ?_)
          refine zv_istore (lv' := [(4, .int r7), (0, .ref (zx_ad X 0)), (1, .int v1), (2, .int v2), (3, .int v3)]) hX dX7_likely_39 (by decide) rfl ?_
          refine zv_iload hX dX7_likely_41 0 rfl ?_
          refine zv_if_ge (tgt := 49) hX dX7_likely_43 rfl ?_ ?_
          · refine zv_aload_n hX dX7_likely_49 1 rfl ?_
            refine zv_geta hX wf_X7_20 wc_7 zd_0 zj_0_2 c9_7 zr_0_2 (by decide) dX7_likely_50 ?_
            refine zv_iload hX dX7_likely_53 0 rfl ?_
            refine zv_cVI [.int r7] (rest := []) hX hT.2.2.2.2 (c_X5_oddsOfSet_3 (zx_Y X) r7 s8) wv_X5_oddsOfSet c9_5 zd_3 wm_X7_271 rfl (Nat.le_of_ble_eq_true rfl) (Nat.le_of_ble_eq_true rfl) rfl (Nat.le_of_ble_eq_true rfl) dX7_likely_55 (fun r9 s10 => ?_)
            refine zv_istore (lv' := [(5, .int r9), (4, .int r7), (0, .ref (zx_ad X 0)), (1, .int v1), (2, .int v2), (3, .int v3)]) hX dX7_likely_58 (by decide) rfl ?_
            refine zv_iload hX dX7_likely_60 0 rfl ?_
            refine zv_if_ne (tgt := 67) hX dX7_likely_62 rfl ?_ ?_
            · refine zv_iload hX dX7_likely_67 1 rfl ?_
              refine zv_iload_n hX dX7_likely_69 4 rfl ?_
              refine zv_iushr hX dX7_likely_70 ?_
              refine zv_iconst (v := (1 : Int32)) hX dX7_likely_71 zi_i_1 ?_
              refine zv_iand hX dX7_likely_72 ?_
              refine zv_iconst (v := (1 : Int32)) hX dX7_likely_73 zi_i_1 ?_
              refine zv_icmp_ne (tgt := 89) hX dX7_likely_74 rfl ?_ ?_
              · refine zv_iconst (v := (0 : Int32)) hX dX7_likely_89 zi_i_0 ?_
                exact zv_sub [5, 0] rfl (b_X7_likely_90 hX hT v3 r9 (0 : Int32) s10)
              · refine zv_aload_n hX dX7_likely_77 2 rfl ?_
                refine zv_geta hX wf_X7_20 wc_7 zd_0 zj_0_2 c9_7 zr_0_2 (by decide) dX7_likely_78 ?_
                refine zv_geta hX wf_X7_128 wc_5 zd_3 zj_3_5 c9_5 zr_3_5 (by decide) dX7_likely_81 ?_
                refine zv_iload_n hX dX7_likely_84 4 rfl ?_
                refine zv_iald hX dX7_likely_85 (fun x11 => ?_)
                refine zv_goto (tgt := 90) hX dX7_likely_86 rfl ?_
                exact zv_sub [5, 0] rfl (b_X7_likely_90 hX hT v3 r9 x11 s10)
            · refine zv_iconst (v := (-1 : Int32)) hX dX7_likely_65 zi_i_m1 ?_
              exact zv_ireti hX hT dX7_likely_66
          · refine zv_iload hX dX7_likely_46 0 rfl ?_
            exact zv_ireti hX hT dX7_likely_48
        · exact zv_sub [] rfl (b_X7_likely_31 hX hT  s6)
theorem dX7_likes_0 : decode cX7_likes 0 = .ok (.aload_n 0, 1) := by decide +kernel
theorem dX7_likes_1 : decode cX7_likes 1 = .ok (.getfield 20, 3) := by decide +kernel
theorem dX7_likes_4 : decode cX7_likes 4 = .ok (.iload_n 1, 1) := by decide +kernel
theorem dX7_likes_5 : decode cX7_likes 5 = .ok (.iload_n 2, 1) := by decide +kernel
theorem dX7_likes_6 : decode cX7_likes 6 = .ok (.invokevirtual 137, 3) := by decide +kernel
theorem dX7_likes_9 : decode cX7_likes 9 = .ok (.ifCond .eq 15, 3) := by decide +kernel
theorem dX7_likes_12 : decode cX7_likes 12 = .ok (.aload_n 0, 1) := by decide +kernel
theorem dX7_likes_13 : decode cX7_likes 13 = .ok (.getfield 36, 3) := by decide +kernel
theorem dX7_likes_16 : decode cX7_likes 16 = .ok (.iload_n 1, 1) := by decide +kernel
theorem dX7_likes_17 : decode cX7_likes 17 = .ok (.iload_n 2, 1) := by decide +kernel
theorem dX7_likes_18 : decode cX7_likes 18 = .ok (.invokevirtual 145, 3) := by decide +kernel
theorem dX7_likes_21 : decode cX7_likes 21 = .ok (.goto 5, 3) := by decide +kernel
theorem dX7_likes_24 : decode cX7_likes 24 = .ok (.ldc 148, 2) := by decide +kernel
theorem dX7_likes_26 : decode cX7_likes 26 = .ok (.ireturn, 1) := by decide +kernel
def f_X7_likes_26 (w0 : Int32) (s : zS) : Option (Int32 × zS) :=
  some (w0, s)
set_option maxRecDepth 20000 in
theorem b_X7_likes_26 {X : zX} (hX : zx_ok X cX7_likes RX7 3) (hT : zx_rt X (some .int) (zR 3 75)) : ∀ (w0 : Int32) (s : zS), zV X (zq X zrI) 3 26 [] [.int w0] s (f_X7_likes_26 w0 s) := by
  intro w0 s
  unfold f_X7_likes_26
  exact zv_ireti hX hT dX7_likes_26
def f_X7_likes (v1 : Int32) (v2 : Int32) (s : zS) : Option (Int32 × zS) :=
  zbd (f_X5_areTwo_3 v1 v2 s) fun r1 s2 =>
  if r1 = 0 then
  (f_X7_likes_26 (-99000002 : Int32) s2)
  else
  zbd (f_X4_liking v1 v2 s2) fun r3 s4 =>
  f_X7_likes_26 r3 s4
set_option maxRecDepth 20000 in
theorem c_X7_likes (Y : zG) (v1 : Int32) (v2 : Int32) (s : zS) : zM Y yX7_likes cX7_likes 3 (some .int) (zR 3 75) [.ref (zy_a Y 0), .int v1, .int v2] s zrI (f_X7_likes v1 v2 s) := by
  refine zm_start (by decide +kernel) (Nat.le_of_ble_eq_true rfl) ?_
  intro X hY hT hX
  subst hY
  have hX : zx_ok X cX7_likes RX7 3 := hX
  show zV X (zq X zrI) 3 0 [(0, .ref (zx_ad X 0)), (1, .int v1), (2, .int v2)] [] s _
  unfold f_X7_likes
  refine zv_aload_n hX dX7_likes_0 0 rfl ?_
  refine zv_geta hX wf_X7_20 wc_7 zd_0 zj_0_2 c9_7 zr_0_2 (by decide) dX7_likes_1 ?_
  refine zv_iload_n hX dX7_likes_4 1 rfl ?_
  refine zv_iload_n hX dX7_likes_5 2 rfl ?_
  refine zv_cVI [.int v1, .int v2] (rest := []) hX hT.2.2.2.2 (c_X5_areTwo_3 (zx_Y X) v1 v2 s) wv_X5_areTwo c9_5 zd_3 wm_X7_137 rfl (Nat.le_of_ble_eq_true rfl) (Nat.le_of_ble_eq_true rfl) rfl (Nat.le_of_ble_eq_true rfl) dX7_likes_6 (fun r1 s2 => ?_)
  refine zv_if_eq (tgt := 24) hX dX7_likes_9 rfl ?_ ?_
  · refine zv_ldc hX wn_X7_148 dX7_likes_24 ?_
    exact zv_sub [] rfl (b_X7_likes_26 hX hT (-99000002 : Int32) s2)
  · refine zv_aload_n hX dX7_likes_12 0 rfl ?_
    refine zv_geta hX wf_X7_36 wc_7 zd_0 zj_0_4 c9_7 zr_0_4 (by decide) dX7_likes_13 ?_
    refine zv_iload_n hX dX7_likes_16 1 rfl ?_
    refine zv_iload_n hX dX7_likes_17 2 rfl ?_
    refine zv_cVI [.int v1, .int v2] (rest := []) hX hT.2.2.2.2 (c_X4_liking (zx_Y X) v1 v2 s2) wv_X4_liking c9_4 zd_42 wm_X7_145 rfl (Nat.le_of_ble_eq_true rfl) (Nat.le_of_ble_eq_true rfl) rfl (Nat.le_of_ble_eq_true rfl) dX7_likes_18 (fun r3 s4 => ?_)
    refine zv_goto (tgt := 26) hX dX7_likes_21 rfl ?_
    exact zv_sub [] rfl (b_X7_likes_26 hX hT r3 s4)
