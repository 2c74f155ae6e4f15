theorem dX7_monogram_0 : decode cX7_monogram 0 = .ok (.iload_n 2, 1) := by decide +kernel
theorem dX7_monogram_1 : decode cX7_monogram 1 = .ok (.bipush 10, 2) := by decide +kernel
theorem dX7_monogram_3 : decode cX7_monogram 3 = .ok (.isub, 1) := by decide +kernel
theorem dX7_monogram_4 : decode cX7_monogram 4 = .ok (.istore_n 3, 1) := by decide +kernel
theorem dX7_monogram_5 : decode cX7_monogram 5 = .ok (.iload_n 2, 1) := by decide +kernel
theorem dX7_monogram_6 : decode cX7_monogram 6 = .ok (.bipush 10, 2) := by decide +kernel
theorem dX7_monogram_8 : decode cX7_monogram 8 = .ok (.if_icmp .lt 18, 3) := by decide +kernel
theorem dX7_monogram_11 : decode cX7_monogram 11 = .ok (.aload_n 0, 1) := by decide +kernel
theorem dX7_monogram_12 : decode cX7_monogram 12 = .ok (.getfield 20, 3) := by decide +kernel
theorem dX7_monogram_15 : decode cX7_monogram 15 = .ok (.iload_n 3, 1) := by decide +kernel
theorem dX7_monogram_16 : decode cX7_monogram 16 = .ok (.invokevirtual 108, 3) := by decide +kernel
theorem dX7_monogram_19 : decode cX7_monogram 19 = .ok (.ifCond .eq 7, 3) := by decide +kernel
theorem dX7_monogram_22 : decode cX7_monogram 22 = .ok (.iconst 1, 1) := by decide +kernel
theorem dX7_monogram_23 : decode cX7_monogram 23 = .ok (.goto 4, 3) := by decide +kernel
theorem dX7_monogram_26 : decode cX7_monogram 26 = .ok (.iconst 0, 1) := by decide +kernel
theorem dX7_monogram_27 : decode cX7_monogram 27 = .ok (.istore 4, 2) := by decide +kernel
theorem dX7_monogram_29 : decode cX7_monogram 29 = .ok (.iload_n 2, 1) := by decide +kernel
theorem dX7_monogram_30 : decode cX7_monogram 30 = .ok (.ifCond .eq 11, 3) := by decide +kernel
theorem dX7_monogram_33 : decode cX7_monogram 33 = .ok (.iload 4, 2) := by decide +kernel
theorem dX7_monogram_35 : decode cX7_monogram 35 = .ok (.ifCond .ne 6, 3) := by decide +kernel
theorem dX7_monogram_38 : decode cX7_monogram 38 = .ok (.bipush (-2), 2) := by decide +kernel
theorem dX7_monogram_40 : decode cX7_monogram 40 = .ok (.ireturn, 1) := by decide +kernel
theorem dX7_monogram_41 : decode cX7_monogram 41 = .ok (.iload_n 1, 1) := by decide +kernel
theorem dX7_monogram_42 : decode cX7_monogram 42 = .ok (.invokestatic 116, 3) := by decide +kernel
theorem dX7_monogram_45 : decode cX7_monogram 45 = .ok (.istore 5, 2) := by decide +kernel
theorem dX7_monogram_47 : decode cX7_monogram 47 = .ok (.aload_n 0, 1) := by decide +kernel
theorem dX7_monogram_48 : decode cX7_monogram 48 = .ok (.getfield 20, 3) := by decide +kernel
theorem dX7_monogram_51 : decode cX7_monogram 51 = .ok (.iload_n 1, 1) := by decide +kernel
theorem dX7_monogram_52 : decode cX7_monogram 52 = .ok (.invokevirtual 238, 3) := by decide +kernel
theorem dX7_monogram_55 : decode cX7_monogram 55 = .ok (.ifCond .eq 15, 3) := by decide +kernel
theorem dX7_monogram_58 : decode cX7_monogram 58 = .ok (.iload 5, 2) := by decide +kernel
theorem dX7_monogram_60 : decode cX7_monogram 60 = .ok (.iconst 1, 1) := by decide +kernel
theorem dX7_monogram_61 : decode cX7_monogram 61 = .ok (.if_icmp .lt 9, 3) := by decide +kernel
theorem dX7_monogram_64 : decode cX7_monogram 64 = .ok (.iload 5, 2) := by decide +kernel
theorem dX7_monogram_66 : decode cX7_monogram 66 = .ok (.iconst 4, 1) := by decide +kernel
theorem dX7_monogram_67 : decode cX7_monogram 67 = .ok (.if_icmp .le 6, 3) := by decide +kernel
theorem dX7_monogram_70 : decode cX7_monogram 70 = .ok (.bipush (-3), 2) := by decide +kernel
theorem dX7_monogram_72 : decode cX7_monogram 72 = .ok (.ireturn, 1) := by decide +kernel
theorem dX7_monogram_73 : decode cX7_monogram 73 = .ok (.iload 4, 2) := by decide +kernel
theorem dX7_monogram_75 : decode cX7_monogram 75 = .ok (.ifCond .eq 15, 3) := by decide +kernel
theorem dX7_monogram_78 : decode cX7_monogram 78 = .ok (.aload_n 0, 1) := by decide +kernel
theorem dX7_monogram_79 : decode cX7_monogram 79 = .ok (.getfield 36, 3) := by decide +kernel
theorem dX7_monogram_82 : decode cX7_monogram 82 = .ok (.iload_n 1, 1) := by decide +kernel
theorem dX7_monogram_83 : decode cX7_monogram 83 = .ok (.iload_n 3, 1) := by decide +kernel
theorem dX7_monogram_84 : decode cX7_monogram 84 = .ok (.invokevirtual 241, 3) := by decide +kernel
theorem dX7_monogram_87 : decode cX7_monogram 87 = .ok (.goto 11, 3) := by decide +kernel
theorem dX7_monogram_90 : decode cX7_monogram 90 = .ok (.aload_n 0, 1) := by decide +kernel
theorem dX7_monogram_91 : decode cX7_monogram 91 = .ok (.getfield 36, 3) := by decide +kernel
theorem dX7_monogram_94 : decode cX7_monogram 94 = .ok (.iload_n 1, 1) := by decide +kernel
theorem dX7_monogram_95 : decode cX7_monogram 95 = .ok (.invokevirtual 244, 3) := by decide +kernel
theorem dX7_monogram_98 : decode cX7_monogram 98 = .ok (.ireturn, 1) := by decide +kernel
def f_X7_monogram_70  (s : zS) : Option (Int32 × zS) :=
  some ((-3 : Int32), s)
set_option maxRecDepth 20000 in
theorem b_X7_monogram_70 {X : zX} (hX : zx_ok X cX7_monogram RX7 6) (hT : zx_rt X (some .int) (zR 68 1749)) : ∀  (s : zS), zV X (zq X zrI) 6 70 [] [] s (f_X7_monogram_70  s) := by
  intro  s
  unfold f_X7_monogram_70
  refine zv_bipush (v := (-3 : Int32)) hX dX7_monogram_70 zi_b_m3 ?_
  exact zv_ireti hX hT dX7_monogram_72
def f_X7_monogram_98 (w0 : Int32) (s : zS) : Option (Int32 × zS) :=
  some (w0, s)
set_option maxRecDepth 20000 in
theorem b_X7_monogram_98 {X : zX} (hX : zx_ok X cX7_monogram RX7 6) (hT : zx_rt X (some .int) (zR 68 1749)) : ∀ (w0 : Int32) (s : zS), zV X (zq X zrI) 6 98 [] [.int w0] s (f_X7_monogram_98 w0 s) := by
  intro w0 s
  unfold f_X7_monogram_98
  exact zv_ireti hX hT dX7_monogram_98
def f_X7_monogram_41 (v1 : Int32) (v3 : Int32) (v4 : Int32) (s : zS) : Option (Int32 × zS) :=
  zbd (f_J6_bitCount_0f7a4 v1 s) fun r1 s2 =>
  zbd (f_X5_hasAll_3 v1 s2) fun r3 s4 =>
  if r3 = 0 then
  (f_X7_monogram_70 s4)
  else
  if r1 < (1 : Int32) then
  (f_X7_monogram_70 s4)
  else
  if r1 ≤ (nI 4) then
  (if v4 = 0 then
  (zbd (f_X4_crossingsOf v1 s4) fun r5 s6 =>
  f_X7_monogram_98 r5 s6)
  else
  zbd (f_X4_shiftOf v1 v3 s4) fun r7 s8 =>
  f_X7_monogram_98 r7 s8)
  else
  f_X7_monogram_70 s4
set_option maxRecDepth 20000 in
theorem b_X7_monogram_41 {X : zX} (hX : zx_ok X cX7_monogram RX7 6) (hT : zx_rt X (some .int) (zR 68 1749)) : ∀ (v1 : Int32) (v3 : Int32) (v4 : Int32) (s : zS), zV X (zq X zrI) 6 41 [(0, .ref (zx_ad X 0)), (1, .int v1), (3, .int v3), (4, .int v4)] [] s (f_X7_monogram_41 v1 v3 v4 s) := by
  intro v1 v3 v4 s
  unfold f_X7_monogram_41
  refine zv_iload_n hX dX7_monogram_41 1 rfl ?_
  refine zv_cSI [.int v1] (rest := []) hX hT.2.2.2.2 (c_J6_bitCount_0f7a4 (zx_Y X) v1 s) wv_J6_bitCount_0f7a4 wm_X7_116 rfl (Nat.le_of_ble_eq_true rfl) (Nat.le_of_ble_eq_true rfl) rfl (Nat.le_of_ble_eq_true rfl) dX7_monogram_42 (fun r1 s2 => ?_)
  refine zv_istore (lv' := [(5, .int r1), (0, .ref (zx_ad X 0)), (1, .int v1), (3, .int v3), (4, .int v4)]) hX dX7_monogram_45 (by decide) rfl ?_
  refine zv_aload_n hX dX7_monogram_47 1 rfl ?_
  refine zv_geta hX wf_X7_20 wc_7 zd_0 zj_0_2 c9_7 zr_0_2 (by decide) dX7_monogram_48 ?_
  refine zv_iload_n hX dX7_monogram_51 2 rfl ?_
  refine zv_cVI [.int v1] (rest := []) hX hT.2.2.2.2 (c_X5_hasAll_3 (zx_Y X) v1 s2) wv_X5_hasAll c9_5 zd_3 wm_X7_238 rfl (Nat.le_of_ble_eq_true rfl) (Nat.le_of_ble_eq_true rfl) rfl (Nat.le_of_ble_eq_true rfl) dX7_monogram_52 (fun r3 s4 => ?_)
  refine zv_if_eq (tgt := 70) hX dX7_monogram_55 rfl ?_ ?_
  · exact zv_sub [] rfl (b_X7_monogram_70 hX hT  s4)
  · refine zv_iload hX dX7_monogram_58 0 rfl ?_
    refine zv_iconst (v := (1 : Int32)) hX dX7_monogram_60 zi_i_1 ?_
    refine zv_icmp_lt (tgt := 70) hX dX7_monogram_61 rfl ?_ ?_
    · exact zv_sub [] rfl (b_X7_monogram_70 hX hT  s4)
    · refine zv_iload hX dX7_monogram_64 0 rfl ?_
      refine zv_iconst (v := (nI 4)) hX dX7_monogram_66 zi_i_4 ?_
      refine zv_icmp_le (tgt := 73) hX dX7_monogram_67 rfl ?_ ?_
      · refine zv_iload hX dX7_monogram_73 4 rfl ?_
        refine zv_if_eq (tgt := 90) hX dX7_monogram_75 rfl ?_ ?_
        · refine zv_aload_n hX dX7_monogram_90 1 rfl ?_
          refine zv_geta hX wf_X7_36 wc_7 zd_0 zj_0_4 c9_7 zr_0_4 (by decide) dX7_monogram_91 ?_
          refine zv_iload_n hX dX7_monogram_94 2 rfl ?_
          refine zv_cVI [.int v1] (rest := []) hX hT.2.2.2.2 (c_X4_crossingsOf (zx_Y X) v1 s4) wv_X4_crossingsOf c9_4 zd_42 wm_X7_244 rfl (Nat.le_of_ble_eq_true rfl) (Nat.le_of_ble_eq_true rfl) rfl (Nat.le_of_ble_eq_true rfl) dX7_monogram_95 (fun r5 s6 => ?_)
          exact zv_sub [] rfl (b_X7_monogram_98 hX hT r5 s6)
        · refine zv_aload_n hX dX7_monogram_78 1 rfl ?_
          refine zv_geta hX wf_X7_36 wc_7 zd_0 zj_0_4 c9_7 zr_0_4 (by decide) dX7_monogram_79 ?_
          refine zv_iload_n hX dX7_monogram_82 2 rfl ?_
          refine zv_iload_n hX dX7_monogram_83 3 rfl ?_
          refine zv_cVI [.int v1, .int v3] (rest := []) hX hT.2.2.2.2 (c_X4_shiftOf (zx_Y X) v1 v3 s4) wv_X4_shiftOf c9_4 zd_42 wm_X7_241 rfl (Nat.le_of_ble_eq_true rfl) (Nat.le_of_ble_eq_true rfl) rfl (Nat.le_of_ble_eq_true rfl) dX7_monogram_84 (fun r7 s8 => ?_)
          refine zv_goto (tgt := 98) hX dX7_monogram_87 rfl ?_
          exact zv_sub [] rfl (b_X7_monogram_98 hX hT r7 s8)
      · exact zv_sub [] rfl (b_X7_monogram_70 hX hT  s4)
def f_X7_monogram_27 (v1 : Int32) (v2 : Int32) (v3 : Int32) (w0 : Int32) (s : zS) : Option (Int32 × zS) :=
  if v2 = 0 then
  (f_X7_monogram_41 v1 v3 w0 s)
  else
  if ¬ w0 = 0 then
  (f_X7_monogram_41 v1 v3 w0 s)
  else
  some ((-2 : Int32), s)
set_option maxRecDepth 20000 in
theorem b_X7_monogram_27 {X : zX} (hX : zx_ok X cX7_monogram RX7 6) (hT : zx_rt X (some .int) (zR 68 1749)) : ∀ (v1 : Int32) (v2 : Int32) (v3 : Int32) (w0 : Int32) (s : zS), zV X (zq X zrI) 6 27 [(0, .ref (zx_ad X 0)), (1, .int v1), (2, .int v2), (3, .int v3)] [.int w0] s (f_X7_monogram_27 v1 v2 v3 w0 s) := by
  intro v1 v2 v3 w0 s
  unfold f_X7_monogram_27
  refine zv_istore (lv' := [(4, .int w0), (0, .ref (zx_ad X 0)), (1, .int v1), (2, .int v2), (3, .int v3)]) hX dX7_monogram_27 (by decide) rfl ?_
  refine zv_iload_n hX dX7_monogram_29 3 rfl ?_
  refine zv_if_eq (tgt := 41) hX dX7_monogram_30 rfl ?_ ?_
  · exact zv_sub [1, 2, 4, 0] rfl (b_X7_monogram_41 hX hT v1 v3 w0 s)
  · refine zv_iload hX dX7_monogram_33 0 rfl ?_
    refine zv_if_ne (tgt := 41) hX dX7_monogram_35 rfl ?_ ?_
    · exact zv_sub [1, 2, 4, 0] rfl (b_X7_monogram_41 hX hT v1 v3 w0 s)
    · refine zv_bipush (v := (-2 : Int32)) hX dX7_monogram_38 zi_b_m2 ?_
      exact zv_ireti hX hT dX7_monogram_40
def f_X7_monogram_26 (v1 : Int32) (v2 : Int32) (v3 : Int32) (s : zS) : Option (Int32 × zS) :=
  f_X7_monogram_27 v1 v2 v3 (0 : Int32) s
set_option maxRecDepth 20000 in
theorem b_X7_monogram_26 {X : zX} (hX : zx_ok X cX7_monogram RX7 6) (hT : zx_rt X (some .int) (zR 68 1749)) : ∀ (v1 : Int32) (v2 : Int32) (v3 : Int32) (s : zS), zV X (zq X zrI) 6 26 [(0, .ref (zx_ad X 0)), (1, .int v1), (2, .int v2), (3, .int v3)] [] s (f_X7_monogram_26 v1 v2 v3 s) := by
  intro v1 v2 v3 s
  unfold f_X7_monogram_26
  refine zv_iconst (v := (0 : Int32)) hX dX7_monogram_26 zi_i_0 ?_
  exact b_X7_monogram_27 hX hT v1 v2 v3 (0 : Int32) s
def f_X7_monogram (v1 : Int32) (v2 : Int32) (s : zS) : Option (Int32 × zS) :=
  zb (v2 - (nI 10)) fun x9 =>
  if v2 < (nI 10) then
  (f_X7_monogram_26 v1 v2 x9 s)
  else
  zbd (f_X5_has_3 x9 s) fun r10 s11 =>
  if r10 = 0 then
  (f_X7_monogram_26 v1 v2 x9 s11)
  else
  f_X7_monogram_27 v1 v2 x9 (1 : Int32) s11
set_option maxRecDepth 20000 in
theorem c_X7_monogram (Y : zG) (v1 : Int32) (v2 : Int32) (s : zS) : zM Y yX7_monogram cX7_monogram 6 (some .int) (zR 68 1749) [.ref (zy_a Y 0), .int v1, .int v2] s zrI (f_X7_monogram v1 v2 s) := by
  refine zm_start (by decide +kernel) (Nat.le_of_ble_eq_true rfl) ?_
  intro X hY hT hX
  subst hY
  have hX : zx_ok X cX7_monogram RX7 6 := hX
  show zV X (zq X zrI) 6 0 [(0, .ref (zx_ad X 0)), (1, .int v1), (2, .int v2)] [] s _
  unfold f_X7_monogram
  refine zv_iload_n hX dX7_monogram_0 2 rfl ?_
  refine zv_bipush (v := (nI 10)) hX dX7_monogram_1 zi_b_10 ?_
  refine zv_isub hX dX7_monogram_3 ?_
  refine zv_istB_n (lw := fun x9 => [(3, .int x9), (0, .ref (zx_ad X 0)), (1, .int v1), (2, .int v2)]) hX dX7_monogram_4 (by decide) (fun _ => rfl) (fun x9 => ?_)
  refine zv_iload_n hX dX7_monogram_5 3 rfl ?_
  refine zv_bipush (v := (nI 10)) hX dX7_monogram_6 zi_b_10 ?_
  refine zv_icmp_lt (tgt := 26) hX dX7_monogram_8 rfl ?_ ?_
  · exact zv_sub [1, 2, 3, 0] rfl (b_X7_monogram_26 hX hT v1 v2 x9 s)
  · refine zv_aload_n hX dX7_monogram_11 1 rfl ?_
    refine zv_geta hX wf_X7_20 wc_7 zd_0 zj_0_2 c9_7 zr_0_2 (by decide) dX7_monogram_12 ?_
    refine zv_iload_n hX dX7_monogram_15 0 rfl ?_
    refine zv_cVI [.int x9] (rest := []) hX hT.2.2.2.2 (c_X5_has_3 (zx_Y X) x9 s) wv_X5_has c9_5 zd_3 wm_X7_108 rfl (Nat.le_of_ble_eq_true rfl) (Nat.le_of_ble_eq_true rfl) rfl (Nat.le_of_ble_eq_true rfl) dX7_monogram_16 (fun r10 s11 => ?_)
    refine zv_if_eq (tgt := 26) hX dX7_monogram_19 rfl ?_ ?_
    · exact zv_sub [1, 2, 3, 0] rfl (b_X7_monogram_26 hX hT v1 v2 x9 s11)
    · refine zv_iconst (v := (1 : Int32)) hX dX7_monogram_22 zi_i_1 ?_
      refine zv_goto (tgt := 27) hX dX7_monogram_23 rfl ?_
      exact zv_sub [1, 2, 3, 0] rfl (b_X7_monogram_27 hX hT v1 v2 x9 (1 : Int32) s11)
theorem dX7_most_0 : decode cX7_most 0 = .ok (.aload_n 0, 1) := by decide +kernel
theorem dX7_most_1 : decode cX7_most 1 = .ok (.getfield 45, 3) := by decide +kernel
theorem dX7_most_4 : decode cX7_most 4 = .ok (.invokevirtual 231, 3) := by decide +kernel
theorem dX7_most_7 : decode cX7_most 7 = .ok (.ireturn, 1) := by decide +kernel
def f_X7_most  (s : zS) : Option (Int32 × zS) :=
  zbd (f_X0_mostTwos s) fun r1 s2 =>
  some (r1, s2)
set_option maxRecDepth 20000 in
theorem c_X7_most (Y : zG)  (s : zS) : zM Y yX7_most cX7_most 1 (some .int) (zR 7 168) [.ref (zy_a Y 0)] s zrI (f_X7_most  s) := by
  refine zm_start (by decide +kernel) (Nat.le_of_ble_eq_true rfl) ?_
  intro X hY hT hX
  subst hY
  have hX : zx_ok X cX7_most RX7 1 := hX
  show zV X (zq X zrI) 1 0 [(0, .ref (zx_ad X 0))] [] s _
  unfold f_X7_most
  refine zv_aload_n hX dX7_most_0 0 rfl ?_
  refine zv_geta hX wf_X7_45 wc_7 zd_0 zj_0_5 c9_7 zr_0_5 (by decide) dX7_most_1 ?_
  refine zv_cVI [] (rest := []) hX hT.2.2.2.2 (c_X0_mostTwos (zx_Y X) s) wv_X0_mostTwos c9_0 zd_60 wm_X7_231 rfl (Nat.le_of_ble_eq_true rfl) (Nat.le_of_ble_eq_true rfl) rfl (Nat.le_of_ble_eq_true rfl) dX7_most_4 (fun r1 s2 => ?_)
  exact zv_ireti hX hT dX7_most_7
theorem dX7_numbers_0 : decode cX7_numbers 0 = .ok (.aload_n 0, 1) := by decide +kernel
theorem dX7_numbers_1 : decode cX7_numbers 1 = .ok (.getfield 52, 3) := by decide +kernel
theorem dX7_numbers_4 : decode cX7_numbers 4 = .ok (.iload_n 1, 1) := by decide +kernel
theorem dX7_numbers_5 : decode cX7_numbers 5 = .ok (.invokevirtual 177, 3) := by decide +kernel
theorem dX7_numbers_8 : decode cX7_numbers 8 = .ok (.ifCond .eq 12, 3) := by decide +kernel
theorem dX7_numbers_11 : decode cX7_numbers 11 = .ok (.iload_n 2, 1) := by decide +kernel
theorem dX7_numbers_12 : decode cX7_numbers 12 = .ok (.ifCond .lt 8, 3) := by decide +kernel
theorem dX7_numbers_15 : decode cX7_numbers 15 = .ok (.iload_n 2, 1) := by decide +kernel
theorem dX7_numbers_16 : decode cX7_numbers 16 = .ok (.iconst 4, 1) := by decide +kernel
theorem dX7_numbers_17 : decode cX7_numbers 17 = .ok (.if_icmp .lt 6, 3) := by decide +kernel
theorem dX7_numbers_20 : decode cX7_numbers 20 = .ok (.bipush (-2), 2) := by decide +kernel
theorem dX7_numbers_22 : decode cX7_numbers 22 = .ok (.ireturn, 1) := by decide +kernel
theorem dX7_numbers_23 : decode cX7_numbers 23 = .ok (.iload_n 3, 1) := by decide +kernel
theorem dX7_numbers_24 : decode cX7_numbers 24 = .ok (.ifCond .lt 9, 3) := by decide +kernel
theorem dX7_numbers_27 : decode cX7_numbers 27 = .ok (.iload_n 3, 1) := by decide +kernel
theorem dX7_numbers_28 : decode cX7_numbers 28 = .ok (.bipush 40, 2) := by decide +kernel
theorem dX7_numbers_30 : decode cX7_numbers 30 = .ok (.if_icmp .le 6, 3) := by decide +kernel
theorem dX7_numbers_33 : decode cX7_numbers 33 = .ok (.bipush (-3), 2) := by decide +kernel
theorem dX7_numbers_35 : decode cX7_numbers 35 = .ok (.ireturn, 1) := by decide +kernel
theorem dX7_numbers_36 : decode cX7_numbers 36 = .ok (.aload_n 0, 1) := by decide +kernel
theorem dX7_numbers_37 : decode cX7_numbers 37 = .ok (.getfield 52, 3) := by decide +kernel
theorem dX7_numbers_40 : decode cX7_numbers 40 = .ok (.iload_n 1, 1) := by decide +kernel
theorem dX7_numbers_41 : decode cX7_numbers 41 = .ok (.iload_n 2, 1) := by decide +kernel
theorem dX7_numbers_42 : decode cX7_numbers 42 = .ok (.iload_n 3, 1) := by decide +kernel
theorem dX7_numbers_43 : decode cX7_numbers 43 = .ok (.invokevirtual 312, 3) := by decide +kernel
theorem dX7_numbers_46 : decode cX7_numbers 46 = .ok (.iconst 0, 1) := by decide +kernel
theorem dX7_numbers_47 : decode cX7_numbers 47 = .ok (.ireturn, 1) := by decide +kernel
def f_X7_numbers_20  (s : zS) : Option (Int32 × zS) :=
  some ((-2 : Int32), s)
set_option maxRecDepth 20000 in
theorem b_X7_numbers_20 {X : zX} (hX : zx_ok X cX7_numbers RX7 4) (hT : zx_rt X (some .int) (zR 2 45)) : ∀  (s : zS), zV X (zq X zrI) 4 20 [] [] s (f_X7_numbers_20  s) := by
  intro  s
  unfold f_X7_numbers_20
  refine zv_bipush (v := (-2 : Int32)) hX dX7_numbers_20 zi_b_m2 ?_
  exact zv_ireti hX hT dX7_numbers_22
def f_X7_numbers_33  (s : zS) : Option (Int32 × zS) :=
  some ((-3 : Int32), s)
set_option maxRecDepth 20000 in
theorem b_X7_numbers_33 {X : zX} (hX : zx_ok X cX7_numbers RX7 4) (hT : zx_rt X (some .int) (zR 2 45)) : ∀  (s : zS), zV X (zq X zrI) 4 33 [] [] s (f_X7_numbers_33  s) := by
  intro  s
  unfold f_X7_numbers_33
  refine zv_bipush (v := (-3 : Int32)) hX dX7_numbers_33 zi_b_m3 ?_
  exact zv_ireti hX hT dX7_numbers_35
def f_X7_numbers (v1 : Int32) (v2 : Int32) (v3 : Int32) (s : zS) : Option (Int32 × zS) :=
  zbd (f_X6_isOne v1 s) fun r1 s2 =>
  if r1 = 0 then
  (f_X7_numbers_20 s2)
  else
  if v2 < 0 then
  (f_X7_numbers_20 s2)
  else
  if v2 < (nI 4) then
  (if v3 < 0 then
  (f_X7_numbers_33 s2)
  else
  if v3 ≤ (nI 40) then
  (zbd (f_X6_renew v1 v2 v3 s2) fun _ s3 =>
  some ((0 : Int32), s3))
  else
  f_X7_numbers_33 s2)
  else
  f_X7_numbers_20 s2
set_option maxRecDepth 20000 in
theorem c_X7_numbers (Y : zG) (v1 : Int32) (v2 : Int32) (v3 : Int32) (s : zS) : zM Y yX7_numbers cX7_numbers 4 (some .int) (zR 2 45) [.ref (zy_a Y 0), .int v1, .int v2, .int v3] s zrI (f_X7_numbers v1 v2 v3 s) := by
  refine zm_start (by decide +kernel) (Nat.le_of_ble_eq_true rfl) ?_
  intro X hY hT hX
  subst hY
  have hX : zx_ok X cX7_numbers RX7 4 := hX
  show zV X (zq X zrI) 4 0 [(0, .ref (zx_ad X 0)), (1, .int v1), (2, .int v2), (3, .int v3)] [] s _
  unfold f_X7_numbers
  refine zv_aload_n hX dX7_numbers_0 0 rfl ?_
  refine zv_geta hX wf_X7_52 wc_7 zd_0 zj_0_8 c9_7 zr_0_8 (by decide) dX7_numbers_1 ?_
  refine zv_iload_n hX dX7_numbers_4 1 rfl ?_
  refine zv_cVI [.int v1] (rest := []) hX hT.2.2.2.2 (c_X6_isOne (zx_Y X) v1 s) wv_X6_isOne c9_6 zd_68 wm_X7_177 rfl (Nat.le_of_ble_eq_true rfl) (Nat.le_of_ble_eq_true rfl) rfl (Nat.le_of_ble_eq_true rfl) dX7_numbers_5 (fun r1 s2 => ?_)
  refine zv_if_eq (tgt := 20) hX dX7_numbers_8 rfl ?_ ?_
  · exact zv_sub [] rfl (b_X7_numbers_20 hX hT  s2)
  · refine zv_iload_n hX dX7_numbers_11 2 rfl ?_
    refine zv_if_lt (tgt := 20) hX dX7_numbers_12 rfl ?_ ?_
    · exact zv_sub [] rfl (b_X7_numbers_20 hX hT  s2)
    · refine zv_iload_n hX dX7_numbers_15 2 rfl ?_
      refine zv_iconst (v := (nI 4)) hX dX7_numbers_16 zi_i_4 ?_
      refine zv_icmp_lt (tgt := 23) hX dX7_numbers_17 rfl ?_ ?_
      · refine zv_iload_n hX dX7_numbers_23 3 rfl ?_
        refine zv_if_lt (tgt := 33) hX dX7_numbers_24 rfl ?_ ?_
        · exact zv_sub [] rfl (b_X7_numbers_33 hX hT  s2)
        · refine zv_iload_n hX dX7_numbers_27 3 rfl ?_
          refine zv_bipush (v := (nI 40)) hX dX7_numbers_28 zi_b_40 ?_
          refine zv_icmp_le (tgt := 36) hX dX7_numbers_30 rfl ?_ ?_
          · refine zv_aload_n hX dX7_numbers_36 0 rfl ?_
            refine zv_geta hX wf_X7_52 wc_7 zd_0 zj_0_8 c9_7 zr_0_8 (by decide) dX7_numbers_37 ?_
            refine zv_iload_n hX dX7_numbers_40 1 rfl ?_
            refine zv_iload_n hX dX7_numbers_41 2 rfl ?_
            refine zv_iload_n hX dX7_numbers_42 3 rfl ?_
            refine zv_cVV [.int v1, .int v2, .int v3] (rest := []) hX hT.2.2.2.2 (c_X6_renew (zx_Y X) v1 v2 v3 s2) wv_X6_renew c9_6 zd_68 wm_X7_312 rfl (Nat.le_of_ble_eq_true rfl) (Nat.le_of_ble_eq_true rfl) rfl (Nat.le_of_ble_eq_true rfl) dX7_numbers_43 (fun _ s3 => ?_)
            refine zv_iconst (v := (0 : Int32)) hX dX7_numbers_46 zi_i_0 ?_
            exact zv_ireti hX hT dX7_numbers_47
          · exact zv_sub [] rfl (b_X7_numbers_33 hX hT  s2)
      · exact zv_sub [] rfl (b_X7_numbers_20 hX hT  s2)
theorem dX7_pairings_0 : decode cX7_pairings 0 = .ok (.aload_n 0, 1) := by decide +kernel
theorem dX7_pairings_1 : decode cX7_pairings 1 = .ok (.getfield 45, 3) := by decide +kernel
theorem dX7_pairings_4 : decode cX7_pairings 4 = .ok (.invokevirtual 222, 3) := by decide +kernel
theorem dX7_pairings_7 : decode cX7_pairings 7 = .ok (.aload_n 0, 1) := by decide +kernel
theorem dX7_pairings_8 : decode cX7_pairings 8 = .ok (.getfield 45, 3) := by decide +kernel
theorem dX7_pairings_11 : decode cX7_pairings 11 = .ok (.getfield 225, 3) := by decide +kernel
theorem dX7_pairings_14 : decode cX7_pairings 14 = .ok (.ireturn, 1) := by decide +kernel
def f_X7_pairings  (s : zS) : Option (Int32 × zS) :=
  zbd (f_X0_learnPairings s) fun _ s1 =>
  some (s1.1 60 8, s1)
set_option maxRecDepth 20000 in
theorem c_X7_pairings (Y : zG)  (s : zS) : zM Y yX7_pairings cX7_pairings 1 (some .int) (zR 70 1738) [.ref (zy_a Y 0)] s zrI (f_X7_pairings  s) := by
  refine zm_start (by decide +kernel) (Nat.le_of_ble_eq_true rfl) ?_
  intro X hY hT hX
  subst hY
  have hX : zx_ok X cX7_pairings RX7 1 := hX
  show zV X (zq X zrI) 1 0 [(0, .ref (zx_ad X 0))] [] s _
  unfold f_X7_pairings
  refine zv_aload_n hX dX7_pairings_0 0 rfl ?_
  refine zv_geta hX wf_X7_45 wc_7 zd_0 zj_0_5 c9_7 zr_0_5 (by decide) dX7_pairings_1 ?_
  refine zv_cVV [] (rest := []) hX hT.2.2.2.2 (c_X0_learnPairings (zx_Y X) s) wv_X0_learnPairings c9_0 zd_60 wm_X7_222 rfl (Nat.le_of_ble_eq_true rfl) (Nat.le_of_ble_eq_true rfl) rfl (Nat.le_of_ble_eq_true rfl) dX7_pairings_4 (fun _ s1 => ?_)
  refine zv_aload_n hX dX7_pairings_7 0 rfl ?_
  refine zv_geta hX wf_X7_45 wc_7 zd_0 zj_0_5 c9_7 zr_0_5 (by decide) dX7_pairings_8 ?_
  refine zv_geti hX wf_X7_225 wc_0 zd_60 zj_60_8 c9_0 zr_60_8 dX7_pairings_11 ?_
  exact zv_ireti hX hT dX7_pairings_14
theorem dX7_part_0 : decode cX7_part 0 = .ok (.aload_n 0, 1) := by decide +kernel
theorem dX7_part_1 : decode cX7_part 1 = .ok (.getfield 68, 3) := by decide +kernel
theorem dX7_part_4 : decode cX7_part 4 = .ok (.invokevirtual 149, 3) := by decide +kernel
theorem dX7_part_7 : decode cX7_part 7 = .ok (.aload_n 0, 1) := by decide +kernel
theorem dX7_part_8 : decode cX7_part 8 = .ok (.getfield 20, 3) := by decide +kernel
theorem dX7_part_11 : decode cX7_part 11 = .ok (.iload_n 1, 1) := by decide +kernel
theorem dX7_part_12 : decode cX7_part 12 = .ok (.invokevirtual 108, 3) := by decide +kernel
theorem dX7_part_15 : decode cX7_part 15 = .ok (.ifCond .eq 15, 3) := by decide +kernel
theorem dX7_part_18 : decode cX7_part 18 = .ok (.aload_n 0, 1) := by decide +kernel
theorem dX7_part_19 : decode cX7_part 19 = .ok (.getfield 20, 3) := by decide +kernel
theorem dX7_part_22 : decode cX7_part 22 = .ok (.getfield 131, 3) := by decide +kernel
theorem dX7_part_25 : decode cX7_part 25 = .ok (.iload_n 1, 1) := by decide +kernel
theorem dX7_part_26 : decode cX7_part 26 = .ok (.iaload, 1) := by decide +kernel
theorem dX7_part_27 : decode cX7_part 27 = .ok (.goto 4, 3) := by decide +kernel
theorem dX7_part_30 : decode cX7_part 30 = .ok (.iconst (-1), 1) := by decide +kernel
theorem dX7_part_31 : decode cX7_part 31 = .ok (.istore_n 2, 1) := by decide +kernel
theorem dX7_part_32 : decode cX7_part 32 = .ok (.aload_n 0, 1) := by decide +kernel
theorem dX7_part_33 : decode cX7_part 33 = .ok (.getfield 61, 3) := by decide +kernel
theorem dX7_part_36 : decode cX7_part 36 = .ok (.iload_n 1, 1) := by decide +kernel
theorem dX7_part_37 : decode cX7_part 37 = .ok (.invokevirtual 161, 3) := by decide +kernel
theorem dX7_part_40 : decode cX7_part 40 = .ok (.istore_n 3, 1) := by decide +kernel
theorem dX7_part_41 : decode cX7_part 41 = .ok (.iload_n 3, 1) := by decide +kernel
theorem dX7_part_42 : decode cX7_part 42 = .ok (.ifCond .eq 8, 3) := by decide +kernel
theorem dX7_part_45 : decode cX7_part 45 = .ok (.bipush (-10), 2) := by decide +kernel
theorem dX7_part_47 : decode cX7_part 47 = .ok (.iload_n 3, 1) := by decide +kernel
theorem dX7_part_48 : decode cX7_part 48 = .ok (.isub, 1) := by decide +kernel
theorem dX7_part_49 : decode cX7_part 49 = .ok (.ireturn, 1) := by decide +kernel
theorem dX7_part_50 : decode cX7_part 50 = .ok (.aload_n 0, 1) := by decide +kernel
theorem dX7_part_51 : decode cX7_part 51 = .ok (.getfield 68, 3) := by decide +kernel
theorem dX7_part_54 : decode cX7_part 54 = .ok (.invokevirtual 155, 3) := by decide +kernel
theorem dX7_part_57 : decode cX7_part 57 = .ok (.iload_n 2, 1) := by decide +kernel
theorem dX7_part_58 : decode cX7_part 58 = .ok (.ireturn, 1) := by decide +kernel
def f_X7_part_31 (v1 : Int32) (w0 : Int32) (s : zS) : Option (Int32 × zS) :=
  zbd (f_X1_tryPart v1 s) fun r1 s2 =>
  if r1 = 0 then
  (zbd (f_X2_keep s2) fun _ s3 =>
  some (w0, s3))
  else
  some ((-10 : Int32) - r1, s2)
set_option maxRecDepth 20000 in
theorem b_X7_part_31 {X : zX} (hX : zx_ok X cX7_part RX7 4) (hT : zx_rt X (some .int) (zR 3 100)) : ∀ (v1 : Int32) (w0 : Int32) (s : zS), zV X (zq X zrI) 4 31 [(0, .ref (zx_ad X 0)), (1, .int v1)] [.int w0] s (f_X7_part_31 v1 w0 s) := by
  intro v1 w0 s
  unfold f_X7_part_31
  refine zv_istore_n (lv' := [(2, .int w0), (0, .ref (zx_ad X 0)), (1, .int v1)]) hX dX7_part_31 (by decide) rfl ?_
  refine zv_aload_n hX dX7_part_32 1 rfl ?_
  refine zv_geta hX wf_X7_61 wc_7 zd_0 zj_0_6 c9_7 zr_0_6 (by decide) dX7_part_33 ?_
  refine zv_iload_n hX dX7_part_36 2 rfl ?_
  refine zv_cVI [.int v1] (rest := []) hX hT.2.2.2.2 (c_X1_tryPart (zx_Y X) v1 s) wv_X1_tryPart c9_1 zd_72 wm_X7_161 rfl (Nat.le_of_ble_eq_true rfl) (Nat.le_of_ble_eq_true rfl) rfl (Nat.le_of_ble_eq_true rfl) dX7_part_37 (fun r1 s2 => ?_)
  refine zv_istore_n (lv' := [(3, .int r1), (2, .int w0), (0, .ref (zx_ad X 0)), (1, .int v1)]) hX dX7_part_40 (by decide) rfl ?_
  refine zv_iload_n hX dX7_part_41 0 rfl ?_
  refine zv_if_eq (tgt := 50) hX dX7_part_42 rfl ?_ ?_
  · refine zv_aload_n hX dX7_part_50 2 rfl ?_
    refine zv_geta hX wf_X7_68 wc_7 zd_0 zj_0_7 c9_7 zr_0_7 (by decide) dX7_part_51 ?_
    refine zv_cVV [] (rest := []) hX hT.2.2.2.2 (c_X2_keep (zx_Y X) s2) wv_X2_keep c9_2 zd_73 wm_X7_155 rfl (Nat.le_of_ble_eq_true rfl) (Nat.le_of_ble_eq_true rfl) rfl (Nat.le_of_ble_eq_true rfl) dX7_part_54 (fun _ s3 => ?_)
    refine zv_iload_n hX dX7_part_57 1 rfl ?_
    exact zv_ireti hX hT dX7_part_58
  · refine zv_bipush (v := (-10 : Int32)) hX dX7_part_45 zi_b_m10 ?_
    refine zv_iload_n hX dX7_part_47 0 rfl ?_
    refine zv_isub hX dX7_part_48 ?_
    exact zv_ireti hX hT dX7_part_49
def f_X7_part (v1 : Int32) (s : zS) : Option (Int32 × zS) :=
  zbd (f_X2_hold s) fun _ s4 =>
  zbd (f_X5_has_3 v1 s4) fun r5 s6 =>
  if r5 = 0 then
  (f_X7_part_31 v1 (-1 : Int32) s6)
  else
  (zr_i s6 8 v1).bind fun x7 =>
  f_X7_part_31 v1 x7 s6
set_option maxRecDepth 20000 in
theorem c_X7_part (Y : zG) (v1 : Int32) (s : zS) : zM Y yX7_part cX7_part 4 (some .int) (zR 3 100) [.ref (zy_a Y 0), .int v1] s zrI (f_X7_part v1 s) := by
  refine zm_start (by decide +kernel) (Nat.le_of_ble_eq_true rfl) ?_
  intro X hY hT hX
  subst hY
  have hX : zx_ok X cX7_part RX7 4 := hX
  show zV X (zq X zrI) 4 0 [(0, .ref (zx_ad X 0)), (1, .int v1)] [] s _
  unfold f_X7_part
  refine zv_aload_n hX dX7_part_0 0 rfl ?_
  refine zv_geta hX wf_X7_68 wc_7 zd_0 zj_0_7 c9_7 zr_0_7 (by decide) dX7_part_1 ?_
  refine zv_cVV [] (rest := []) hX hT.2.2.2.2 (c_X2_hold (zx_Y X) s) wv_X2_hold c9_2 zd_73 wm_X7_149 rfl (Nat.le_of_ble_eq_true rfl) (Nat.le_of_ble_eq_true rfl) rfl (Nat.le_of_ble_eq_true rfl) dX7_part_4 (fun _ s4 => ?_)
  refine zv_aload_n hX dX7_part_7 0 rfl ?_
  refine zv_geta hX wf_X7_20 wc_7 zd_0 zj_0_2 c9_7 zr_0_2 (by decide) dX7_part_8 ?_
  refine zv_iload_n hX dX7_part_11 1 rfl ?_
  refine zv_cVI [.int v1] (rest := []) hX hT.2.2.2.2 (c_X5_has_3 (zx_Y X) v1 s4) wv_X5_has c9_5 zd_3 wm_X7_108 rfl (Nat.le_of_ble_eq_true rfl) (Nat.le_of_ble_eq_true rfl) rfl (Nat.le_of_ble_eq_true rfl) dX7_part_12 (fun r5 s6 => ?_)
  refine zv_if_eq (tgt := 30) hX dX7_part_15 rfl ?_ ?_
  · refine zv_iconst (v := (-1 : Int32)) hX dX7_part_30 zi_i_m1 ?_
    exact b_X7_part_31 hX hT v1 (-1 : Int32) s6
  · refine zv_aload_n hX dX7_part_18 0 rfl ?_
    refine zv_geta hX wf_X7_20 wc_7 zd_0 zj_0_2 c9_7 zr_0_2 (by decide) dX7_part_19 ?_
    refine zv_geta hX wf_X7_131 wc_5 zd_3 zj_3_6 c9_5 zr_3_6 (by decide) dX7_part_22 ?_
    refine zv_iload_n hX dX7_part_25 1 rfl ?_
    refine zv_iald hX dX7_part_26 (fun x7 => ?_)
    refine zv_goto (tgt := 31) hX dX7_part_27 rfl ?_
    exact b_X7_part_31 hX hT v1 x7 s6
theorem dX7_partner_0 : decode cX7_partner 0 = .ok (.aload_n 0, 1) := by decide +kernel
theorem dX7_partner_1 : decode cX7_partner 1 = .ok (.getfield 20, 3) := by decide +kernel
theorem dX7_partner_4 : decode cX7_partner 4 = .ok (.iload_n 2, 1) := by decide +kernel
theorem dX7_partner_5 : decode cX7_partner 5 = .ok (.invokevirtual 108, 3) := by decide +kernel
theorem dX7_partner_8 : decode cX7_partner 8 = .ok (.ifCond .ne 6, 3) := by decide +kernel
theorem dX7_partner_11 : decode cX7_partner 11 = .ok (.bipush (-2), 2) := by decide +kernel
theorem dX7_partner_13 : decode cX7_partner 13 = .ok (.ireturn, 1) := by decide +kernel
theorem dX7_partner_14 : decode cX7_partner 14 = .ok (.iload_n 1, 1) := by decide +kernel
theorem dX7_partner_15 : decode cX7_partner 15 = .ok (.ifCond .ge 6, 3) := by decide +kernel
theorem dX7_partner_18 : decode cX7_partner 18 = .ok (.bipush (-3), 2) := by decide +kernel
theorem dX7_partner_20 : decode cX7_partner 20 = .ok (.ireturn, 1) := by decide +kernel
theorem dX7_partner_21 : decode cX7_partner 21 = .ok (.aload_n 0, 1) := by decide +kernel
theorem dX7_partner_22 : decode cX7_partner 22 = .ok (.getfield 45, 3) := by decide +kernel
theorem dX7_partner_25 : decode cX7_partner 25 = .ok (.invokevirtual 222, 3) := by decide +kernel
theorem dX7_partner_28 : decode cX7_partner 28 = .ok (.aload_n 0, 1) := by decide +kernel
theorem dX7_partner_29 : decode cX7_partner 29 = .ok (.getfield 45, 3) := by decide +kernel
theorem dX7_partner_32 : decode cX7_partner 32 = .ok (.iload_n 1, 1) := by decide +kernel
theorem dX7_partner_33 : decode cX7_partner 33 = .ok (.iload_n 2, 1) := by decide +kernel
theorem dX7_partner_34 : decode cX7_partner 34 = .ok (.invokevirtual 228, 3) := by decide +kernel
theorem dX7_partner_37 : decode cX7_partner 37 = .ok (.ireturn, 1) := by decide +kernel
def f_X7_partner (v1 : Int32) (v2 : Int32) (s : zS) : Option (Int32 × zS) :=
  zbd (f_X5_has_3 v2 s) fun r1 s2 =>
  if ¬ r1 = 0 then
  (if 0 ≤ v1 then
  (zbd (f_X0_learnPairings s2) fun _ s3 =>
  zbd (f_X0_partnerIn v1 v2 s3) fun r4 s5 =>
  some (r4, s5))
  else
  some ((-3 : Int32), s2))
  else
  some ((-2 : Int32), s2)
set_option maxRecDepth 20000 in
theorem c_X7_partner (Y : zG) (v1 : Int32) (v2 : Int32) (s : zS) : zM Y yX7_partner cX7_partner 3 (some .int) (zR 70 1738) [.ref (zy_a Y 0), .int v1, .int v2] s zrI (f_X7_partner v1 v2 s) := by
  refine zm_start (by decide +kernel) (Nat.le_of_ble_eq_true rfl) ?_
  intro X hY hT hX
  subst hY
  have hX : zx_ok X cX7_partner RX7 3 := hX
  show zV X (zq X zrI) 3 0 [(0, .ref (zx_ad X 0)), (1, .int v1), (2, .int v2)] [] s _
  unfold f_X7_partner
  refine zv_aload_n hX dX7_partner_0 0 rfl ?_
  refine zv_geta hX wf_X7_20 wc_7 zd_0 zj_0_2 c9_7 zr_0_2 (by decide) dX7_partner_1 ?_
  refine zv_iload_n hX dX7_partner_4 2 rfl ?_
  refine zv_cVI [.int v2] (rest := []) hX hT.2.2.2.2 (c_X5_has_3 (zx_Y X) v2 s) wv_X5_has c9_5 zd_3 wm_X7_108 rfl (Nat.le_of_ble_eq_true rfl) (Nat.le_of_ble_eq_true rfl) rfl (Nat.le_of_ble_eq_true rfl) dX7_partner_5 (fun r1 s2 => ?_)
  refine zv_if_ne (tgt := 14) hX dX7_partner_8 rfl ?_ ?_
  · refine zv_iload_n hX dX7_partner_14 1 rfl ?_
    refine zv_if_ge (tgt := 21) hX dX7_partner_15 rfl ?_ ?_
    · refine zv_aload_n hX dX7_partner_21 0 rfl ?_
      refine zv_geta hX wf_X7_45 wc_7 zd_0 zj_0_5 c9_7 zr_0_5 (by decide) dX7_partner_22 ?_
      refine zv_cVV [] (rest := []) hX hT.2.2.2.2 (c_X0_learnPairings (zx_Y X) s2) wv_X0_learnPairings c9_0 zd_60 wm_X7_222 rfl (Nat.le_of_ble_eq_true rfl) (Nat.le_of_ble_eq_true rfl) rfl (Nat.le_of_ble_eq_true rfl) dX7_partner_25 (fun _ s3 => ?_)
      refine zv_aload_n hX dX7_partner_28 0 rfl ?_
      refine zv_geta hX wf_X7_45 wc_7 zd_0 zj_0_5 c9_7 zr_0_5 (by decide) dX7_partner_29 ?_
      refine zv_iload_n hX dX7_partner_32 1 rfl ?_
      refine zv_iload_n hX dX7_partner_33 2 rfl ?_
      refine zv_cVI [.int v1, .int v2] (rest := []) hX hT.2.2.2.2 (c_X0_partnerIn (zx_Y X) v1 v2 s3) wv_X0_partnerIn c9_0 zd_60 wm_X7_228 rfl (Nat.le_of_ble_eq_true rfl) (Nat.le_of_ble_eq_true rfl) rfl (Nat.le_of_ble_eq_true rfl) dX7_partner_34 (fun r4 s5 => ?_)
      exact zv_ireti hX hT dX7_partner_37
    · refine zv_bipush (v := (-3 : Int32)) hX dX7_partner_18 zi_b_m3 ?_
      exact zv_ireti hX hT dX7_partner_20
  · refine zv_bipush (v := (-2 : Int32)) hX dX7_partner_11 zi_b_m2 ?_
    exact zv_ireti hX hT dX7_partner_13
theorem dX7_perform_0 : decode cX7_perform 0 = .ok (.aload_n 0, 1) := by decide +kernel
theorem dX7_perform_1 : decode cX7_perform 1 = .ok (.getfield 52, 3) := by decide +kernel
theorem dX7_perform_4 : decode cX7_perform 4 = .ok (.iload_n 1, 1) := by decide +kernel
theorem dX7_perform_5 : decode cX7_perform 5 = .ok (.invokevirtual 177, 3) := by decide +kernel
theorem dX7_perform_8 : decode cX7_perform 8 = .ok (.ifCond .ne 6, 3) := by decide +kernel
theorem dX7_perform_11 : decode cX7_perform 11 = .ok (.bipush (-2), 2) := by decide +kernel
theorem dX7_perform_13 : decode cX7_perform 13 = .ok (.ireturn, 1) := by decide +kernel
theorem dX7_perform_14 : decode cX7_perform 14 = .ok (.aload_n 0, 1) := by decide +kernel
theorem dX7_perform_15 : decode cX7_perform 15 = .ok (.getfield 52, 3) := by decide +kernel
theorem dX7_perform_18 : decode cX7_perform 18 = .ok (.iload_n 1, 1) := by decide +kernel
theorem dX7_perform_19 : decode cX7_perform 19 = .ok (.invokevirtual 180, 3) := by decide +kernel
theorem dX7_perform_22 : decode cX7_perform 22 = .ok (.ifCond .eq 6, 3) := by decide +kernel
theorem dX7_perform_25 : decode cX7_perform 25 = .ok (.bipush (-6), 2) := by decide +kernel
theorem dX7_perform_27 : decode cX7_perform 27 = .ok (.ireturn, 1) := by decide +kernel
theorem dX7_perform_28 : decode cX7_perform 28 = .ok (.aload_n 0, 1) := by decide +kernel
theorem dX7_perform_29 : decode cX7_perform 29 = .ok (.getfield 68, 3) := by decide +kernel
theorem dX7_perform_32 : decode cX7_perform 32 = .ok (.invokevirtual 149, 3) := by decide +kernel
theorem dX7_perform_35 : decode cX7_perform 35 = .ok (.aload_n 0, 1) := by decide +kernel
theorem dX7_perform_36 : decode cX7_perform 36 = .ok (.aload_n 0, 1) := by decide +kernel
theorem dX7_perform_37 : decode cX7_perform 37 = .ok (.getfield 61, 3) := by decide +kernel
theorem dX7_perform_40 : decode cX7_perform 40 = .ok (.iload_n 1, 1) := by decide +kernel
theorem dX7_perform_41 : decode cX7_perform 41 = .ok (.invokevirtual 183, 3) := by decide +kernel
theorem dX7_perform_44 : decode cX7_perform 44 = .ok (.invokevirtual 199, 3) := by decide +kernel
theorem dX7_perform_47 : decode cX7_perform 47 = .ok (.ireturn, 1) := by decide +kernel
def f_X7_perform (v1 : Int32) (s : zS) : Option (Int32 × zS) :=
  zbd (f_X6_isOne v1 s) fun r1 s2 =>
  if ¬ r1 = 0 then
  (zbd (f_X6_isMissing v1 s2) fun r3 s4 =>
  if r3 = 0 then
  (zbd (f_X2_hold s4) fun _ s5 =>
  zbd (f_X1_doTray v1 s5) fun r6 s7 =>
  zbd (f_X7_keepIfAny r6 s7) fun r8 s9 =>
  some (r8, s9))
  else
  some ((-6 : Int32), s4))
  else
  some ((-2 : Int32), s2)
set_option maxRecDepth 20000 in
theorem c_X7_perform (Y : zG) (v1 : Int32) (s : zS) : zM Y yX7_perform cX7_perform 2 (some .int) (zR 7 171) [.ref (zy_a Y 0), .int v1] s zrI (f_X7_perform v1 s) := by
  refine zm_start (by decide +kernel) (Nat.le_of_ble_eq_true rfl) ?_
  intro X hY hT hX
  subst hY
  have hX : zx_ok X cX7_perform RX7 2 := hX
  show zV X (zq X zrI) 2 0 [(0, .ref (zx_ad X 0)), (1, .int v1)] [] s _
  unfold f_X7_perform
  refine zv_aload_n hX dX7_perform_0 0 rfl ?_
  refine zv_geta hX wf_X7_52 wc_7 zd_0 zj_0_8 c9_7 zr_0_8 (by decide) dX7_perform_1 ?_
  refine zv_iload_n hX dX7_perform_4 1 rfl ?_
  refine zv_cVI [.int v1] (rest := []) hX hT.2.2.2.2 (c_X6_isOne (zx_Y X) v1 s) wv_X6_isOne c9_6 zd_68 wm_X7_177 rfl (Nat.le_of_ble_eq_true rfl) (Nat.le_of_ble_eq_true rfl) rfl (Nat.le_of_ble_eq_true rfl) dX7_perform_5 (fun r1 s2 => ?_)
  refine zv_if_ne (tgt := 14) hX dX7_perform_8 rfl ?_ ?_
  · refine zv_aload_n hX dX7_perform_14 0 rfl ?_
    refine zv_geta hX wf_X7_52 wc_7 zd_0 zj_0_8 c9_7 zr_0_8 (by decide) dX7_perform_15 ?_
    refine zv_iload_n hX dX7_perform_18 1 rfl ?_
    refine zv_cVI [.int v1] (rest := []) hX hT.2.2.2.2 (c_X6_isMissing (zx_Y X) v1 s2) wv_X6_isMissing c9_6 zd_68 wm_X7_180 rfl (Nat.le_of_ble_eq_true rfl) (Nat.le_of_ble_eq_true rfl) rfl (Nat.le_of_ble_eq_true rfl) dX7_perform_19 (fun r3 s4 => ?_)
    refine zv_if_eq (tgt := 28) hX dX7_perform_22 rfl ?_ ?_
    · refine zv_aload_n hX dX7_perform_28 0 rfl ?_
      refine zv_geta hX wf_X7_68 wc_7 zd_0 zj_0_7 c9_7 zr_0_7 (by decide) dX7_perform_29 ?_
      refine zv_cVV [] (rest := []) hX hT.2.2.2.2 (c_X2_hold (zx_Y X) s4) wv_X2_hold c9_2 zd_73 wm_X7_149 rfl (Nat.le_of_ble_eq_true rfl) (Nat.le_of_ble_eq_true rfl) rfl (Nat.le_of_ble_eq_true rfl) dX7_perform_32 (fun _ s5 => ?_)
      refine zv_aload_n hX dX7_perform_35 0 rfl ?_
      refine zv_aload_n hX dX7_perform_36 0 rfl ?_
      refine zv_geta hX wf_X7_61 wc_7 zd_0 zj_0_6 c9_7 zr_0_6 (by decide) dX7_perform_37 ?_
      refine zv_iload_n hX dX7_perform_40 1 rfl ?_
      refine zv_cVI [.int v1] (rest := [.ref (zx_ad X 0)]) hX hT.2.2.2.2 (c_X1_doTray (zx_Y X) v1 s5) wv_X1_doTray c9_1 zd_72 wm_X7_183 rfl (Nat.le_of_ble_eq_true rfl) (Nat.le_of_ble_eq_true rfl) rfl (Nat.le_of_ble_eq_true rfl) dX7_perform_41 (fun r6 s7 => ?_)
      refine zv_cVI [.int r6] (rest := []) hX hT.2.2.2.2 (c_X7_keepIfAny (zx_Y X) r6 s7) wv_X7_keepIfAny c9_7 zd_0 wm_X7_199 rfl (Nat.le_of_ble_eq_true rfl) (Nat.le_of_ble_eq_true rfl) rfl (Nat.le_of_ble_eq_true rfl) dX7_perform_44 (fun r8 s9 => ?_)
      exact zv_ireti hX hT dX7_perform_47
    · refine zv_bipush (v := (-6 : Int32)) hX dX7_perform_25 zi_b_m6 ?_
      exact zv_ireti hX hT dX7_perform_27
  · refine zv_bipush (v := (-2 : Int32)) hX dX7_perform_11 zi_b_m2 ?_
    exact zv_ireti hX hT dX7_perform_13
theorem dX7_person_0 : decode cX7_person 0 = .ok (.aload_n 0, 1) := by decide +kernel
theorem dX7_person_1 : decode cX7_person 1 = .ok (.getfield 20, 3) := by decide +kernel
theorem dX7_person_4 : decode cX7_person 4 = .ok (.iload_n 1, 1) := by decide +kernel
theorem dX7_person_5 : decode cX7_person 5 = .ok (.invokevirtual 108, 3) := by decide +kernel
theorem dX7_person_8 : decode cX7_person 8 = .ok (.ifCond .ne 6, 3) := by decide +kernel
theorem dX7_person_11 : decode cX7_person 11 = .ok (.bipush (-2), 2) := by decide +kernel
theorem dX7_person_13 : decode cX7_person 13 = .ok (.ireturn, 1) := by decide +kernel
theorem dX7_person_14 : decode cX7_person 14 = .ok (.iload_n 2, 1) := by decide +kernel
theorem dX7_person_15 : decode cX7_person 15 = .ok (.tableswitch 113 0 6 #[41, 51, 64, 74, 84, 94, 104], 41) := by decide +kernel
theorem dX7_person_56 : decode cX7_person 56 = .ok (.aload_n 0, 1) := by decide +kernel
theorem dX7_person_57 : decode cX7_person 57 = .ok (.getfield 20, 3) := by decide +kernel
theorem dX7_person_60 : decode cX7_person 60 = .ok (.getfield 112, 3) := by decide +kernel
theorem dX7_person_63 : decode cX7_person 63 = .ok (.iload_n 1, 1) := by decide +kernel
theorem dX7_person_64 : decode cX7_person 64 = .ok (.iaload, 1) := by decide +kernel
theorem dX7_person_65 : decode cX7_person 65 = .ok (.ireturn, 1) := by decide +kernel
theorem dX7_person_66 : decode cX7_person 66 = .ok (.aload_n 0, 1) := by decide +kernel
theorem dX7_person_67 : decode cX7_person 67 = .ok (.getfield 20, 3) := by decide +kernel
theorem dX7_person_70 : decode cX7_person 70 = .ok (.getfield 112, 3) := by decide +kernel
theorem dX7_person_73 : decode cX7_person 73 = .ok (.iload_n 1, 1) := by decide +kernel
theorem dX7_person_74 : decode cX7_person 74 = .ok (.iaload, 1) := by decide +kernel
theorem dX7_person_75 : decode cX7_person 75 = .ok (.invokestatic 116, 3) := by decide +kernel
theorem dX7_person_78 : decode cX7_person 78 = .ok (.ireturn, 1) := by decide +kernel
theorem dX7_person_79 : decode cX7_person 79 = .ok (.aload_n 0, 1) := by decide +kernel
theorem dX7_person_80 : decode cX7_person 80 = .ok (.getfield 20, 3) := by decide +kernel
theorem dX7_person_83 : decode cX7_person 83 = .ok (.getfield 122, 3) := by decide +kernel
theorem dX7_person_86 : decode cX7_person 86 = .ok (.iload_n 1, 1) := by decide +kernel
theorem dX7_person_87 : decode cX7_person 87 = .ok (.iaload, 1) := by decide +kernel
theorem dX7_person_88 : decode cX7_person 88 = .ok (.ireturn, 1) := by decide +kernel
theorem dX7_person_89 : decode cX7_person 89 = .ok (.aload_n 0, 1) := by decide +kernel
theorem dX7_person_90 : decode cX7_person 90 = .ok (.getfield 20, 3) := by decide +kernel
theorem dX7_person_93 : decode cX7_person 93 = .ok (.getfield 125, 3) := by decide +kernel
theorem dX7_person_96 : decode cX7_person 96 = .ok (.iload_n 1, 1) := by decide +kernel
theorem dX7_person_97 : decode cX7_person 97 = .ok (.iaload, 1) := by decide +kernel
theorem dX7_person_98 : decode cX7_person 98 = .ok (.ireturn, 1) := by decide +kernel
theorem dX7_person_99 : decode cX7_person 99 = .ok (.aload_n 0, 1) := by decide +kernel
theorem dX7_person_100 : decode cX7_person 100 = .ok (.getfield 20, 3) := by decide +kernel
theorem dX7_person_103 : decode cX7_person 103 = .ok (.getfield 128, 3) := by decide +kernel
theorem dX7_person_106 : decode cX7_person 106 = .ok (.iload_n 1, 1) := by decide +kernel
theorem dX7_person_107 : decode cX7_person 107 = .ok (.iaload, 1) := by decide +kernel
theorem dX7_person_108 : decode cX7_person 108 = .ok (.ireturn, 1) := by decide +kernel
theorem dX7_person_109 : decode cX7_person 109 = .ok (.aload_n 0, 1) := by decide +kernel
theorem dX7_person_110 : decode cX7_person 110 = .ok (.getfield 20, 3) := by decide +kernel
theorem dX7_person_113 : decode cX7_person 113 = .ok (.getfield 131, 3) := by decide +kernel
theorem dX7_person_116 : decode cX7_person 116 = .ok (.iload_n 1, 1) := by decide +kernel
theorem dX7_person_117 : decode cX7_person 117 = .ok (.iaload, 1) := by decide +kernel
theorem dX7_person_118 : decode cX7_person 118 = .ok (.ireturn, 1) := by decide +kernel
theorem dX7_person_119 : decode cX7_person 119 = .ok (.aload_n 0, 1) := by decide +kernel
theorem dX7_person_120 : decode cX7_person 120 = .ok (.getfield 45, 3) := by decide +kernel
theorem dX7_person_123 : decode cX7_person 123 = .ok (.iload_n 1, 1) := by decide +kernel
theorem dX7_person_124 : decode cX7_person 124 = .ok (.invokevirtual 134, 3) := by decide +kernel
theorem dX7_person_127 : decode cX7_person 127 = .ok (.ireturn, 1) := by decide +kernel
theorem dX7_person_128 : decode cX7_person 128 = .ok (.bipush (-2), 2) := by decide +kernel
theorem dX7_person_130 : decode cX7_person 130 = .ok (.ireturn, 1) := by decide +kernel
def f_X7_person (v1 : Int32) (v2 : Int32) (s : zS) : Option (Int32 × zS) :=
  zbd (f_X5_has_3 v1 s) fun r1 s2 =>
  if ¬ r1 = 0 then
  (if v2 = (0 : Int32) then
  ((zr_i s2 4 v1).bind fun x3 =>
  some (x3, s2))
  else if v2 = (1 : Int32) then
  ((zr_i s2 4 v1).bind fun x4 =>
  zbd (f_J6_bitCount_0f7a4 x4 s2) fun r5 s6 =>
  some (r5, s6))
  else if v2 = (nI 2) then
  ((zr_i s2 5 v1).bind fun x7 =>
  some (x7, s2))
  else if v2 = (nI 3) then
  ((zr_i s2 6 v1).bind fun x8 =>
  some (x8, s2))
  else if v2 = (nI 4) then
  ((zr_i s2 7 v1).bind fun x9 =>
  some (x9, s2))
  else if v2 = (nI 5) then
  ((zr_i s2 8 v1).bind fun x10 =>
  some (x10, s2))
  else if v2 = (nI 6) then
  (zbd (f_X0_matchesOf v1 s2) fun r11 s12 =>
  some (r11, s12))
  else 
  some ((-2 : Int32), s2))
  else
  some ((-2 : Int32), s2)
set_option maxRecDepth 20000 in
theorem c_X7_person (Y : zG) (v1 : Int32) (v2 : Int32) (s : zS) : zM Y yX7_person cX7_person 3 (some .int) (zR 7 168) [.ref (zy_a Y 0), .int v1, .int v2] s zrI (f_X7_person v1 v2 s) := by
  refine zm_start (by decide +kernel) (Nat.le_of_ble_eq_true rfl) ?_
  intro X hY hT hX
  subst hY
  have hX : zx_ok X cX7_person RX7 3 := hX
  show zV X (zq X zrI) 3 0 [(0, .ref (zx_ad X 0)), (1, .int v1), (2, .int v2)] [] s _
  unfold f_X7_person
  refine zv_aload_n hX dX7_person_0 0 rfl ?_
  refine zv_geta hX wf_X7_20 wc_7 zd_0 zj_0_2 c9_7 zr_0_2 (by decide) dX7_person_1 ?_
  refine zv_iload_n hX dX7_person_4 1 rfl ?_
  refine zv_cVI [.int v1] (rest := []) hX hT.2.2.2.2 (c_X5_has_3 (zx_Y X) v1 s) wv_X5_has c9_5 zd_3 wm_X7_108 rfl (Nat.le_of_ble_eq_true rfl) (Nat.le_of_ble_eq_true rfl) rfl (Nat.le_of_ble_eq_true rfl) dX7_person_5 (fun r1 s2 => ?_)
  refine zv_if_ne (tgt := 14) hX dX7_person_8 rfl ?_ ?_
  · refine zv_iload_n hX dX7_person_14 2 rfl ?_
    refine zv_ite (fun h15_0 => ?_) (fun h15_0 => ?_)
    · refine zv_tabI (tgt := 56) hX dX7_person_15 (0 : Int32) h15_0 (by decide) (by decide) rfl rfl ?_
      refine zv_aload_n hX dX7_person_56 0 rfl ?_
      refine zv_geta hX wf_X7_20 wc_7 zd_0 zj_0_2 c9_7 zr_0_2 (by decide) dX7_person_57 ?_
      refine zv_geta hX wf_X7_112 wc_5 zd_3 zj_3_2 c9_5 zr_3_2 (by decide) dX7_person_60 ?_
      refine zv_iload_n hX dX7_person_63 1 rfl ?_
      refine zv_iald hX dX7_person_64 (fun x3 => ?_)
      exact zv_ireti hX hT dX7_person_65
    refine zv_ite (fun h15_1 => ?_) (fun h15_1 => ?_)
    · refine zv_tabI (tgt := 66) hX dX7_person_15 (1 : Int32) h15_1 (by decide) (by decide) rfl rfl ?_
      refine zv_aload_n hX dX7_person_66 0 rfl ?_
      refine zv_geta hX wf_X7_20 wc_7 zd_0 zj_0_2 c9_7 zr_0_2 (by decide) dX7_person_67 ?_
      refine zv_geta hX wf_X7_112 wc_5 zd_3 zj_3_2 c9_5 zr_3_2 (by decide) dX7_person_70 ?_
      refine zv_iload_n hX dX7_person_73 1 rfl ?_
      refine zv_iald hX dX7_person_74 (fun x4 => ?_)
      refine zv_cSI [.int x4] (rest := []) hX hT.2.2.2.2 (c_J6_bitCount_0f7a4 (zx_Y X) x4 s2) wv_J6_bitCount_0f7a4 wm_X7_116 rfl (Nat.le_of_ble_eq_true rfl) (Nat.le_of_ble_eq_true rfl) rfl (Nat.le_of_ble_eq_true rfl) dX7_person_75 (fun r5 s6 => ?_)
      exact zv_ireti hX hT dX7_person_78
    refine zv_ite (fun h15_2 => ?_) (fun h15_2 => ?_)
    · refine zv_tabI (tgt := 79) hX dX7_person_15 (nI 2) h15_2 (by decide) (by decide) rfl rfl ?_
      refine zv_aload_n hX dX7_person_79 0 rfl ?_
      refine zv_geta hX wf_X7_20 wc_7 zd_0 zj_0_2 c9_7 zr_0_2 (by decide) dX7_person_80 ?_
      refine zv_geta hX wf_X7_122 wc_5 zd_3 zj_3_3 c9_5 zr_3_3 (by decide) dX7_person_83 ?_
      refine zv_iload_n hX dX7_person_86 1 rfl ?_
      refine zv_iald hX dX7_person_87 (fun x7 => ?_)
      exact zv_ireti hX hT dX7_person_88
    refine zv_ite (fun h15_3 => ?_) (fun h15_3 => ?_)
    · refine zv_tabI (tgt := 89) hX dX7_person_15 (nI 3) h15_3 (by decide) (by decide) rfl rfl ?_
      refine zv_aload_n hX dX7_person_89 0 rfl ?_
      refine zv_geta hX wf_X7_20 wc_7 zd_0 zj_0_2 c9_7 zr_0_2 (by decide) dX7_person_90 ?_
      refine zv_geta hX wf_X7_125 wc_5 zd_3 zj_3_4 c9_5 zr_3_4 (by decide) dX7_person_93 ?_
      refine zv_iload_n hX dX7_person_96 1 rfl ?_
      refine zv_iald hX dX7_person_97 (fun x8 => ?_)
      exact zv_ireti hX hT dX7_person_98
    refine zv_ite (fun h15_4 => ?_) (fun h15_4 => ?_)
    · refine zv_tabI (tgt := 99) hX dX7_person_15 (nI 4) h15_4 (by decide) (by decide) rfl rfl ?_
      refine zv_aload_n hX dX7_person_99 0 rfl ?_
      refine zv_geta hX wf_X7_20 wc_7 zd_0 zj_0_2 c9_7 zr_0_2 (by decide) dX7_person_100 ?_
      refine zv_geta hX wf_X7_128 wc_5 zd_3 zj_3_5 c9_5 zr_3_5 (by decide) dX7_person_103 ?_
      refine zv_iload_n hX dX7_person_106 1 rfl ?_
      refine zv_iald hX dX7_person_107 (fun x9 => ?_)
      exact zv_ireti hX hT dX7_person_108
    refine zv_ite (fun h15_5 => ?_) (fun h15_5 => ?_)
    · refine zv_tabI (tgt := 109) hX dX7_person_15 (nI 5) h15_5 (by decide) (by decide) rfl rfl ?_
      refine zv_aload_n hX dX7_person_109 0 rfl ?_
      refine zv_geta hX wf_X7_20 wc_7 zd_0 zj_0_2 c9_7 zr_0_2 (by decide) dX7_person_110 ?_
      refine zv_geta hX wf_X7_131 wc_5 zd_3 zj_3_6 c9_5 zr_3_6 (by decide) dX7_person_113 ?_
      refine zv_iload_n hX dX7_person_116 1 rfl ?_
      refine zv_iald hX dX7_person_117 (fun x10 => ?_)
      exact zv_ireti hX hT dX7_person_118
    refine zv_ite (fun h15_6 => ?_) (fun h15_6 => ?_)
    · refine zv_tabI (tgt := 119) hX dX7_person_15 (nI 6) h15_6 (by decide) (by decide) rfl rfl ?_
      refine zv_aload_n hX dX7_person_119 0 rfl ?_
      refine zv_geta hX wf_X7_45 wc_7 zd_0 zj_0_5 c9_7 zr_0_5 (by decide) dX7_person_120 ?_
      refine zv_iload_n hX dX7_person_123 1 rfl ?_
      refine zv_cVI [.int v1] (rest := []) hX hT.2.2.2.2 (c_X0_matchesOf (zx_Y X) v1 s2) wv_X0_matchesOf c9_0 zd_60 wm_X7_134 rfl (Nat.le_of_ble_eq_true rfl) (Nat.le_of_ble_eq_true rfl) rfl (Nat.le_of_ble_eq_true rfl) dX7_person_124 (fun r11 s12 => ?_)
      exact zv_ireti hX hT dX7_person_127
    refine zv_tabO (tgt := 128) hX dX7_person_15 (zt_out 0 7 (by decide) (fun j hj => by match j, hj with | 0, _ => exact h15_0 | 1, _ => exact h15_1 | 2, _ => exact h15_2 | 3, _ => exact h15_3 | 4, _ => exact h15_4 | 5, _ => exact h15_5 | 6, _ => exact h15_6)) rfl ?_
    refine zv_bipush (v := (-2 : Int32)) hX dX7_person_128 zi_b_m2 ?_
    exact zv_ireti hX hT dX7_person_130
  · refine zv_bipush (v := (-2 : Int32)) hX dX7_person_11 zi_b_m2 ?_
    exact zv_ireti hX hT dX7_person_13
theorem dX7_restore_0 : decode cX7_restore 0 = .ok (.iload_n 1, 1) := by decide +kernel
theorem dX7_restore_1 : decode cX7_restore 1 = .ok (.ifCond .lt 8, 3) := by decide +kernel
theorem dX7_restore_4 : decode cX7_restore 4 = .ok (.iload_n 1, 1) := by decide +kernel
theorem dX7_restore_5 : decode cX7_restore 5 = .ok (.iconst 2, 1) := by decide +kernel
theorem dX7_restore_6 : decode cX7_restore 6 = .ok (.if_icmp .lt 6, 3) := by decide +kernel
theorem dX7_restore_9 : decode cX7_restore 9 = .ok (.bipush (-2), 2) := by decide +kernel
theorem dX7_restore_11 : decode cX7_restore 11 = .ok (.ireturn, 1) := by decide +kernel
theorem dX7_restore_12 : decode cX7_restore 12 = .ok (.aload_n 0, 1) := by decide +kernel
theorem dX7_restore_13 : decode cX7_restore 13 = .ok (.getfield 13, 3) := by decide +kernel
theorem dX7_restore_16 : decode cX7_restore 16 = .ok (.iload_n 1, 1) := by decide +kernel
theorem dX7_restore_17 : decode cX7_restore 17 = .ok (.baload, 1) := by decide +kernel
theorem dX7_restore_18 : decode cX7_restore 18 = .ok (.ifCond .ne 6, 3) := by decide +kernel
theorem dX7_restore_21 : decode cX7_restore 21 = .ok (.bipush (-5), 2) := by decide +kernel
theorem dX7_restore_23 : decode cX7_restore 23 = .ok (.ireturn, 1) := by decide +kernel
theorem dX7_restore_24 : decode cX7_restore 24 = .ok (.aload_n 0, 1) := by decide +kernel
theorem dX7_restore_25 : decode cX7_restore 25 = .ok (.getfield 20, 3) := by decide +kernel
theorem dX7_restore_28 : decode cX7_restore 28 = .ok (.iload_n 1, 1) := by decide +kernel
theorem dX7_restore_29 : decode cX7_restore 29 = .ok (.ifCond .ne 10, 3) := by decide +kernel
theorem dX7_restore_32 : decode cX7_restore 32 = .ok (.aload_n 0, 1) := by decide +kernel
theorem dX7_restore_33 : decode cX7_restore 33 = .ok (.getfield 72, 3) := by decide +kernel
theorem dX7_restore_36 : decode cX7_restore 36 = .ok (.goto 7, 3) := by decide +kernel
theorem dX7_restore_39 : decode cX7_restore 39 = .ok (.aload_n 0, 1) := by decide +kernel
theorem dX7_restore_40 : decode cX7_restore 40 = .ok (.getfield 75, 3) := by decide +kernel
theorem dX7_restore_43 : decode cX7_restore 43 = .ok (.invokevirtual 93, 3) := by decide +kernel
theorem dX7_restore_46 : decode cX7_restore 46 = .ok (.aload_n 0, 1) := by decide +kernel
theorem dX7_restore_47 : decode cX7_restore 47 = .ok (.getfield 68, 3) := by decide +kernel
theorem dX7_restore_50 : decode cX7_restore 50 = .ok (.invokevirtual 96, 3) := by decide +kernel
theorem dX7_restore_53 : decode cX7_restore 53 = .ok (.iconst 0, 1) := by decide +kernel
theorem dX7_restore_54 : decode cX7_restore 54 = .ok (.ireturn, 1) := by decide +kernel
def f_X7_restore_9  (s : zS) : Option (Int32 × zS) :=
  some ((-2 : Int32), s)
set_option maxRecDepth 20000 in
theorem b_X7_restore_9 {X : zX} (hX : zx_ok X cX7_restore RX7 2) (hT : zx_rt X (some .int) (zR 3 123)) : ∀  (s : zS), zV X (zq X zrI) 2 9 [] [] s (f_X7_restore_9  s) := by
  intro  s
  unfold f_X7_restore_9
  refine zv_bipush (v := (-2 : Int32)) hX dX7_restore_9 zi_b_m2 ?_
  exact zv_ireti hX hT dX7_restore_11
def f_X7_restore (v1 : Int32) (s : zS) : Option (Int32 × zS) :=
  if v1 < 0 then
  (f_X7_restore_9 s)
  else
  if v1 < (nI 2) then
  ((zr_b s 2 v1).bind fun x1 =>
  if ¬ x1 = 0 then
  (if ¬ v1 = 0 then
  (zbd (f_X5_copyFrom_3_21 s) fun _ s2 =>
  zbd (f_X2_forget s2) fun _ s3 =>
  some ((0 : Int32), s3))
  else
  zbd (f_X5_copyFrom_3_12 s) fun _ s4 =>
  zbd (f_X2_forget s4) fun _ s5 =>
  some ((0 : Int32), s5))
  else
  some ((-5 : Int32), s))
  else
  f_X7_restore_9 s
set_option maxRecDepth 20000 in
theorem c_X7_restore (Y : zG) (v1 : Int32) (s : zS) : zM Y yX7_restore cX7_restore 2 (some .int) (zR 3 123) [.ref (zy_a Y 0), .int v1] s zrI (f_X7_restore v1 s) := by
  refine zm_start (by decide +kernel) (Nat.le_of_ble_eq_true rfl) ?_
  intro X hY hT hX
  subst hY
  have hX : zx_ok X cX7_restore RX7 2 := hX
  show zV X (zq X zrI) 2 0 [(0, .ref (zx_ad X 0)), (1, .int v1)] [] s _
  unfold f_X7_restore
  refine zv_iload_n hX dX7_restore_0 1 rfl ?_
  refine zv_if_lt (tgt := 9) hX dX7_restore_1 rfl ?_ ?_
  · exact zv_sub [] rfl (b_X7_restore_9 hX hT  s)
  · refine zv_iload_n hX dX7_restore_4 1 rfl ?_
    refine zv_iconst (v := (nI 2)) hX dX7_restore_5 zi_i_2 ?_
    refine zv_icmp_lt (tgt := 12) hX dX7_restore_6 rfl ?_ ?_
    · refine zv_aload_n hX dX7_restore_12 0 rfl ?_
      refine zv_geta hX wf_X7_13 wc_7 zd_0 zj_0_11 c9_7 zr_0_11 (by decide) dX7_restore_13 ?_
      refine zv_iload_n hX dX7_restore_16 1 rfl ?_
      refine zv_bald hX dX7_restore_17 (fun x1 => ?_)
      refine zv_if_ne (tgt := 24) hX dX7_restore_18 rfl ?_ ?_
      · refine zv_aload_n hX dX7_restore_24 0 rfl ?_
        refine zv_geta hX wf_X7_20 wc_7 zd_0 zj_0_2 c9_7 zr_0_2 (by decide) dX7_restore_25 ?_
        refine zv_iload_n hX dX7_restore_28 1 rfl ?_
        refine zv_if_ne (tgt := 39) hX dX7_restore_29 rfl ?_ ?_
        · refine zv_aload_n hX dX7_restore_39 0 rfl ?_
          refine zv_geta hX wf_X7_75 wc_7 zd_0 zj_0_10 c9_7 zr_0_10 (by decide) dX7_restore_40 ?_
          refine zv_cVV [.ref (zx_ad X 21)] (rest := []) hX hT.2.2.2.2 (c_X5_copyFrom_3_21 (zx_Y X) s) wv_X5_copyFrom c9_5 zd_3 wm_X7_93 rfl (Nat.le_of_ble_eq_true rfl) (Nat.le_of_ble_eq_true rfl) rfl (Nat.le_of_ble_eq_true rfl) dX7_restore_43 (fun _ s2 => ?_)
          refine zv_aload_n hX dX7_restore_46 0 rfl ?_
          refine zv_geta hX wf_X7_68 wc_7 zd_0 zj_0_7 c9_7 zr_0_7 (by decide) dX7_restore_47 ?_
          refine zv_cVV [] (rest := []) hX hT.2.2.2.2 (c_X2_forget (zx_Y X) s2) wv_X2_forget c9_2 zd_73 wm_X7_96 rfl (Nat.le_of_ble_eq_true rfl) (Nat.le_of_ble_eq_true rfl) rfl (Nat.le_of_ble_eq_true rfl) dX7_restore_50 (fun _ s3 => ?_)
          refine zv_iconst (v := (0 : Int32)) hX dX7_restore_53 zi_i_0 ?_
          exact zv_ireti hX hT dX7_restore_54
        · refine zv_aload_n hX dX7_restore_32 0 rfl ?_
          refine zv_geta hX wf_X7_72 wc_7 zd_0 zj_0_9 c9_7 zr_0_9 (by decide) dX7_restore_33 ?_
          refine zv_goto (tgt := 43) hX dX7_restore_36 rfl ?_
          refine zv_cVV [.ref (zx_ad X 12)] (rest := []) hX hT.2.2.2.2 (c_X5_copyFrom_3_12 (zx_Y X) s) wv_X5_copyFrom c9_5 zd_3 wm_X7_93 rfl (Nat.le_of_ble_eq_true rfl) (Nat.le_of_ble_eq_true rfl) rfl (Nat.le_of_ble_eq_true rfl) dX7_restore_43 (fun _ s4 => ?_)
          refine zv_aload_n hX dX7_restore_46 0 rfl ?_
          refine zv_geta hX wf_X7_68 wc_7 zd_0 zj_0_7 c9_7 zr_0_7 (by decide) dX7_restore_47 ?_
          refine zv_cVV [] (rest := []) hX hT.2.2.2.2 (c_X2_forget (zx_Y X) s4) wv_X2_forget c9_2 zd_73 wm_X7_96 rfl (Nat.le_of_ble_eq_true rfl) (Nat.le_of_ble_eq_true rfl) rfl (Nat.le_of_ble_eq_true rfl) dX7_restore_50 (fun _ s5 => ?_)
          refine zv_iconst (v := (0 : Int32)) hX dX7_restore_53 zi_i_0 ?_
          exact zv_ireti hX hT dX7_restore_54
      · refine zv_bipush (v := (-5 : Int32)) hX dX7_restore_21 zi_b_m5 ?_
        exact zv_ireti hX hT dX7_restore_23
    · exact zv_sub [] rfl (b_X7_restore_9 hX hT  s)
