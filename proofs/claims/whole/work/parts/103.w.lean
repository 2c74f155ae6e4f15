theorem dX0_areMatching_0 : decode cX0_areMatching 0 = .ok (.aload_n 0, 1) := by decide +kernel
theorem dX0_areMatching_1 : decode cX0_areMatching 1 = .ok (.getfield 37, 3) := by decide +kernel
theorem dX0_areMatching_4 : decode cX0_areMatching 4 = .ok (.iload_n 1, 1) := by decide +kernel
theorem dX0_areMatching_5 : decode cX0_areMatching 5 = .ok (.iload_n 2, 1) := by decide +kernel
theorem dX0_areMatching_6 : decode cX0_areMatching 6 = .ok (.invokevirtual 47, 3) := by decide +kernel
theorem dX0_areMatching_9 : decode cX0_areMatching 9 = .ok (.ifCond .le 31, 3) := by decide +kernel
theorem dX0_areMatching_12 : decode cX0_areMatching 12 = .ok (.aload_n 0, 1) := by decide +kernel
theorem dX0_areMatching_13 : decode cX0_areMatching 13 = .ok (.getfield 37, 3) := by decide +kernel
theorem dX0_areMatching_16 : decode cX0_areMatching 16 = .ok (.iload_n 2, 1) := by decide +kernel
theorem dX0_areMatching_17 : decode cX0_areMatching 17 = .ok (.iload_n 1, 1) := by decide +kernel
theorem dX0_areMatching_18 : decode cX0_areMatching 18 = .ok (.invokevirtual 47, 3) := by decide +kernel
theorem dX0_areMatching_21 : decode cX0_areMatching 21 = .ok (.ifCond .le 19, 3) := by decide +kernel
theorem dX0_areMatching_24 : decode cX0_areMatching 24 = .ok (.aload_n 0, 1) := by decide +kernel
theorem dX0_areMatching_25 : decode cX0_areMatching 25 = .ok (.getfield 37, 3) := by decide +kernel
theorem dX0_areMatching_28 : decode cX0_areMatching 28 = .ok (.iload_n 1, 1) := by decide +kernel
theorem dX0_areMatching_29 : decode cX0_areMatching 29 = .ok (.iload_n 2, 1) := by decide +kernel
theorem dX0_areMatching_30 : decode cX0_areMatching 30 = .ok (.invokevirtual 53, 3) := by decide +kernel
theorem dX0_areMatching_33 : decode cX0_areMatching 33 = .ok (.ifCond .eq 7, 3) := by decide +kernel
theorem dX0_areMatching_36 : decode cX0_areMatching 36 = .ok (.iconst 1, 1) := by decide +kernel
theorem dX0_areMatching_37 : decode cX0_areMatching 37 = .ok (.goto 4, 3) := by decide +kernel
theorem dX0_areMatching_40 : decode cX0_areMatching 40 = .ok (.iconst 0, 1) := by decide +kernel
theorem dX0_areMatching_41 : decode cX0_areMatching 41 = .ok (.ireturn, 1) := by decide +kernel
def f_X0_areMatching_41 (w0 : Int32) (s : zS) : Option (Int32 × zS) :=
  if w0 = 0 ∨ w0 = 1 then some (w0, s) else none
set_option maxRecDepth 20000 in
theorem b_X0_areMatching_41 {X : zX} (hX : zx_ok X cX0_areMatching RX0 3) (hT : zx_rt X (some .boolean) (zR 3 78)) : ∀ (w0 : Int32) (s : zS), zV X (zq X zrI) 3 41 [] [.int w0] s (f_X0_areMatching_41 w0 s) := by
  intro w0 s
  unfold f_X0_areMatching_41
  exact zv_iretzB hX hT dX0_areMatching_41
def f_X0_areMatching_40  (s : zS) : Option (Int32 × zS) :=
  f_X0_areMatching_41 (0 : Int32) s
set_option maxRecDepth 20000 in
theorem b_X0_areMatching_40 {X : zX} (hX : zx_ok X cX0_areMatching RX0 3) (hT : zx_rt X (some .boolean) (zR 3 78)) : ∀  (s : zS), zV X (zq X zrI) 3 40 [] [] s (f_X0_areMatching_40  s) := by
  intro  s
  unfold f_X0_areMatching_40
  refine zv_iconst (v := (0 : Int32)) hX dX0_areMatching_40 zi_i_0 ?_
  exact b_X0_areMatching_41 hX hT (0 : Int32) s
def f_X0_areMatching (v1 : Int32) (v2 : Int32) (s : zS) : Option (Int32 × zS) :=
  zbd (f_X4_liking v1 v2 s) fun r1 s2 =>
  if r1 ≤ 0 then
  (f_X0_areMatching_40 s2)
  else
  zbd (f_X4_liking v2 v1 s2) fun r3 s4 =>
  if r3 ≤ 0 then
  (f_X0_areMatching_40 s4)
  else
  zbd (f_X4_twoFit v1 v2 s4) fun r5 s6 =>
  if r5 = 0 then
  (f_X0_areMatching_40 s6)
  else
  f_X0_areMatching_41 (1 : Int32) s6
set_option maxRecDepth 20000 in
theorem c_X0_areMatching (Y : zG) (v1 : Int32) (v2 : Int32) (s : zS) : zM Y yX0_areMatching cX0_areMatching 3 (some .boolean) (zR 3 78) [.ref (zy_a Y 60), .int v1, .int v2] s zrI (f_X0_areMatching v1 v2 s) := by
  refine zm_start (by decide +kernel) (Nat.le_of_ble_eq_true rfl) ?_
  intro X hY hT hX
  subst hY
  have hX : zx_ok X cX0_areMatching RX0 3 := hX
  show zV X (zq X zrI) 3 0 [(0, .ref (zx_ad X 60)), (1, .int v1), (2, .int v2)] [] s _
  unfold f_X0_areMatching
  refine zv_aload_n hX dX0_areMatching_0 0 rfl ?_
  refine zv_geta hX wf_X0_37 wc_0 zd_60 zj_60_1 c9_0 zr_60_1 (by decide) dX0_areMatching_1 ?_
  refine zv_iload_n hX dX0_areMatching_4 1 rfl ?_
  refine zv_iload_n hX dX0_areMatching_5 2 rfl ?_
  refine zv_cVI [.int v1, .int v2] (rest := []) hX hT.2.2.2.2 (c_X4_liking (zx_Y X) v1 v2 s) wv_X4_liking c9_4 zd_42 wm_X0_47 rfl (Nat.le_of_ble_eq_true rfl) (Nat.le_of_ble_eq_true rfl) rfl (Nat.le_of_ble_eq_true rfl) dX0_areMatching_6 (fun r1 s2 => ?_)
  refine zv_if_le (tgt := 40) hX dX0_areMatching_9 rfl ?_ ?_
  · exact zv_sub [] rfl (b_X0_areMatching_40 hX hT  s2)
  · refine zv_aload_n hX dX0_areMatching_12 0 rfl ?_
    refine zv_geta hX wf_X0_37 wc_0 zd_60 zj_60_1 c9_0 zr_60_1 (by decide) dX0_areMatching_13 ?_
    refine zv_iload_n hX dX0_areMatching_16 2 rfl ?_
    refine zv_iload_n hX dX0_areMatching_17 1 rfl ?_
    refine zv_cVI [.int v2, .int v1] (rest := []) hX hT.2.2.2.2 (c_X4_liking (zx_Y X) v2 v1 s2) wv_X4_liking c9_4 zd_42 wm_X0_47 rfl (Nat.le_of_ble_eq_true rfl) (Nat.le_of_ble_eq_true rfl) rfl (Nat.le_of_ble_eq_true rfl) dX0_areMatching_18 (fun r3 s4 => ?_)
    refine zv_if_le (tgt := 40) hX dX0_areMatching_21 rfl ?_ ?_
    · exact zv_sub [] rfl (b_X0_areMatching_40 hX hT  s4)
    · refine zv_aload_n hX dX0_areMatching_24 0 rfl ?_
      refine zv_geta hX wf_X0_37 wc_0 zd_60 zj_60_1 c9_0 zr_60_1 (by decide) dX0_areMatching_25 ?_
      refine zv_iload_n hX dX0_areMatching_28 1 rfl ?_
      refine zv_iload_n hX dX0_areMatching_29 2 rfl ?_
      refine zv_cVI [.int v1, .int v2] (rest := []) hX hT.2.2.2.2 (c_X4_twoFit (zx_Y X) v1 v2 s4) wv_X4_twoFit c9_4 zd_42 wm_X0_53 rfl (Nat.le_of_ble_eq_true rfl) (Nat.le_of_ble_eq_true rfl) rfl (Nat.le_of_ble_eq_true rfl) dX0_areMatching_30 (fun r5 s6 => ?_)
      refine zv_if_eq (tgt := 40) hX dX0_areMatching_33 rfl ?_ ?_
      · exact zv_sub [] rfl (b_X0_areMatching_40 hX hT  s6)
      · refine zv_iconst (v := (1 : Int32)) hX dX0_areMatching_36 zi_i_1 ?_
        refine zv_goto (tgt := 41) hX dX0_areMatching_37 rfl ?_
        exact zv_sub [] rfl (b_X0_areMatching_41 hX hT (1 : Int32) s6)
theorem dX0_leaves_0 : decode cX0_leaves 0 = .ok (.iload_n 3, 1) := by decide +kernel
theorem dX0_leaves_1 : decode cX0_leaves 1 = .ok (.ifCond .lt 22, 3) := by decide +kernel
theorem dX0_leaves_4 : decode cX0_leaves 4 = .ok (.aload_n 0, 1) := by decide +kernel
theorem dX0_leaves_5 : decode cX0_leaves 5 = .ok (.getfield 15, 3) := by decide +kernel
theorem dX0_leaves_8 : decode cX0_leaves 8 = .ok (.iload_n 1, 1) := by decide +kernel
theorem dX0_leaves_9 : decode cX0_leaves 9 = .ok (.bipush 7, 2) := by decide +kernel
theorem dX0_leaves_11 : decode cX0_leaves 11 = .ok (.imul, 1) := by decide +kernel
theorem dX0_leaves_12 : decode cX0_leaves 12 = .ok (.iload_n 2, 1) := by decide +kernel
theorem dX0_leaves_13 : decode cX0_leaves 13 = .ok (.iadd, 1) := by decide +kernel
theorem dX0_leaves_14 : decode cX0_leaves 14 = .ok (.iaload, 1) := by decide +kernel
theorem dX0_leaves_15 : decode cX0_leaves 15 = .ok (.iload_n 3, 1) := by decide +kernel
theorem dX0_leaves_16 : decode cX0_leaves 16 = .ok (.iushr, 1) := by decide +kernel
theorem dX0_leaves_17 : decode cX0_leaves 17 = .ok (.iconst 1, 1) := by decide +kernel
theorem dX0_leaves_18 : decode cX0_leaves 18 = .ok (.iand, 1) := by decide +kernel
theorem dX0_leaves_19 : decode cX0_leaves 19 = .ok (.iconst 1, 1) := by decide +kernel
theorem dX0_leaves_20 : decode cX0_leaves 20 = .ok (.if_icmp .ne 7, 3) := by decide +kernel
theorem dX0_leaves_23 : decode cX0_leaves 23 = .ok (.iconst 1, 1) := by decide +kernel
theorem dX0_leaves_24 : decode cX0_leaves 24 = .ok (.goto 4, 3) := by decide +kernel
theorem dX0_leaves_27 : decode cX0_leaves 27 = .ok (.iconst 0, 1) := by decide +kernel
theorem dX0_leaves_28 : decode cX0_leaves 28 = .ok (.ireturn, 1) := by decide +kernel
def f_X0_leaves_28 (w0 : Int32) (s : zS) : Option (Int32 × zS) :=
  if w0 = 0 ∨ w0 = 1 then some (w0, s) else none
set_option maxRecDepth 20000 in
theorem b_X0_leaves_28 {X : zX} (hX : zx_ok X cX0_leaves RX0 4) (hT : zx_rt X (some .boolean) (zR 0 0)) : ∀ (w0 : Int32) (s : zS), zV X (zq X zrI) 4 28 [] [.int w0] s (f_X0_leaves_28 w0 s) := by
  intro w0 s
  unfold f_X0_leaves_28
  exact zv_iretzB hX hT dX0_leaves_28
def f_X0_leaves_23  (s : zS) : Option (Int32 × zS) :=
  f_X0_leaves_28 (1 : Int32) s
set_option maxRecDepth 20000 in
theorem b_X0_leaves_23 {X : zX} (hX : zx_ok X cX0_leaves RX0 4) (hT : zx_rt X (some .boolean) (zR 0 0)) : ∀  (s : zS), zV X (zq X zrI) 4 23 [] [] s (f_X0_leaves_23  s) := by
  intro  s
  unfold f_X0_leaves_23
  refine zv_iconst (v := (1 : Int32)) hX dX0_leaves_23 zi_i_1 ?_
  refine zv_goto (tgt := 28) hX dX0_leaves_24 rfl ?_
  exact b_X0_leaves_28 hX hT (1 : Int32) s
def f_X0_leaves (v1 : Int32) (v2 : Int32) (v3 : Int32) (s : zS) : Option (Int32 × zS) :=
  if v3 < 0 then
  (f_X0_leaves_23 s)
  else
  (zr_i s 62 ((v1 * (nI 7)) + v2)).bind fun x1 =>
  if ¬ ((zo_ush x1 v3) &&& (1 : Int32)) = (1 : Int32) then
  (f_X0_leaves_28 (0 : Int32) s)
  else
  f_X0_leaves_23 s
set_option maxRecDepth 20000 in
theorem c_X0_leaves (Y : zG) (v1 : Int32) (v2 : Int32) (v3 : Int32) (s : zS) : zM Y yX0_leaves cX0_leaves 4 (some .boolean) (zR 0 0) [.ref (zy_a Y 60), .int v1, .int v2, .int v3] s zrI (f_X0_leaves v1 v2 v3 s) := by
  refine zm_start (by decide +kernel) (Nat.le_of_ble_eq_true rfl) ?_
  intro X hY hT hX
  subst hY
  have hX : zx_ok X cX0_leaves RX0 4 := hX
  show zV X (zq X zrI) 4 0 [(0, .ref (zx_ad X 60)), (1, .int v1), (2, .int v2), (3, .int v3)] [] s _
  unfold f_X0_leaves
  refine zv_iload_n hX dX0_leaves_0 3 rfl ?_
  refine zv_if_lt (tgt := 23) hX dX0_leaves_1 rfl ?_ ?_
  · exact zv_sub [] rfl (b_X0_leaves_23 hX hT  s)
  · refine zv_aload_n hX dX0_leaves_4 0 rfl ?_
    refine zv_geta hX wf_X0_15 wc_0 zd_60 zj_60_3 c9_0 zr_60_3 (by decide) dX0_leaves_5 ?_
    refine zv_iload_n hX dX0_leaves_8 1 rfl ?_
    refine zv_bipush (v := (nI 7)) hX dX0_leaves_9 zi_b_7 ?_
    refine zv_imul hX dX0_leaves_11 ?_
    refine zv_iload_n hX dX0_leaves_12 2 rfl ?_
    refine zv_iadd hX dX0_leaves_13 ?_
    refine zv_iald hX dX0_leaves_14 (fun x1 => ?_)
    refine zv_iload_n hX dX0_leaves_15 3 rfl ?_
    refine zv_iushr hX dX0_leaves_16 ?_
    refine zv_iconst (v := (1 : Int32)) hX dX0_leaves_17 zi_i_1 ?_
    refine zv_iand hX dX0_leaves_18 ?_
    refine zv_iconst (v := (1 : Int32)) hX dX0_leaves_19 zi_i_1 ?_
    refine zv_icmp_ne (tgt := 27) hX dX0_leaves_20 rfl ?_ ?_
    · refine zv_iconst (v := (0 : Int32)) hX dX0_leaves_27 zi_i_0 ?_
      exact zv_sub [] rfl (b_X0_leaves_28 hX hT (0 : Int32) s)
    · exact zv_sub [] rfl (b_X0_leaves_23 hX hT  s)
theorem dX0_breakIt_0 : decode cX0_breakIt 0 = .ok (.aload_n 0, 1) := by decide +kernel
theorem dX0_breakIt_1 : decode cX0_breakIt 1 = .ok (.iload_n 2, 1) := by decide +kernel
theorem dX0_breakIt_2 : decode cX0_breakIt 2 = .ok (.iload_n 3, 1) := by decide +kernel
theorem dX0_breakIt_3 : decode cX0_breakIt 3 = .ok (.invokevirtual 82, 3) := by decide +kernel
theorem dX0_breakIt_6 : decode cX0_breakIt 6 = .ok (.ifCond .eq 38, 3) := by decide +kernel
theorem dX0_breakIt_9 : decode cX0_breakIt 9 = .ok (.aload_n 1, 1) := by decide +kernel
theorem dX0_breakIt_10 : decode cX0_breakIt 10 = .ok (.iload_n 2, 1) := by decide +kernel
theorem dX0_breakIt_11 : decode cX0_breakIt 11 = .ok (.iaload, 1) := by decide +kernel
theorem dX0_breakIt_12 : decode cX0_breakIt 12 = .ok (.iload_n 3, 1) := by decide +kernel
theorem dX0_breakIt_13 : decode cX0_breakIt 13 = .ok (.if_icmp .eq 31, 3) := by decide +kernel
theorem dX0_breakIt_16 : decode cX0_breakIt 16 = .ok (.aload_n 0, 1) := by decide +kernel
theorem dX0_breakIt_17 : decode cX0_breakIt 17 = .ok (.iload_n 2, 1) := by decide +kernel
theorem dX0_breakIt_18 : decode cX0_breakIt 18 = .ok (.iload_n 3, 1) := by decide +kernel
theorem dX0_breakIt_19 : decode cX0_breakIt 19 = .ok (.aload_n 1, 1) := by decide +kernel
theorem dX0_breakIt_20 : decode cX0_breakIt 20 = .ok (.iload_n 2, 1) := by decide +kernel
theorem dX0_breakIt_21 : decode cX0_breakIt 21 = .ok (.iaload, 1) := by decide +kernel
theorem dX0_breakIt_22 : decode cX0_breakIt 22 = .ok (.invokevirtual 85, 3) := by decide +kernel
theorem dX0_breakIt_25 : decode cX0_breakIt 25 = .ok (.ifCond .eq 19, 3) := by decide +kernel
theorem dX0_breakIt_28 : decode cX0_breakIt 28 = .ok (.aload_n 0, 1) := by decide +kernel
theorem dX0_breakIt_29 : decode cX0_breakIt 29 = .ok (.iload_n 3, 1) := by decide +kernel
theorem dX0_breakIt_30 : decode cX0_breakIt 30 = .ok (.iload_n 2, 1) := by decide +kernel
theorem dX0_breakIt_31 : decode cX0_breakIt 31 = .ok (.aload_n 1, 1) := by decide +kernel
theorem dX0_breakIt_32 : decode cX0_breakIt 32 = .ok (.iload_n 3, 1) := by decide +kernel
theorem dX0_breakIt_33 : decode cX0_breakIt 33 = .ok (.iaload, 1) := by decide +kernel
theorem dX0_breakIt_34 : decode cX0_breakIt 34 = .ok (.invokevirtual 85, 3) := by decide +kernel
theorem dX0_breakIt_37 : decode cX0_breakIt 37 = .ok (.ifCond .eq 7, 3) := by decide +kernel
theorem dX0_breakIt_40 : decode cX0_breakIt 40 = .ok (.iconst 1, 1) := by decide +kernel
theorem dX0_breakIt_41 : decode cX0_breakIt 41 = .ok (.goto 4, 3) := by decide +kernel
theorem dX0_breakIt_44 : decode cX0_breakIt 44 = .ok (.iconst 0, 1) := by decide +kernel
theorem dX0_breakIt_45 : decode cX0_breakIt 45 = .ok (.ireturn, 1) := by decide +kernel
def f_X0_breakIt_45 (w0 : Int32) (s : zS) : Option (Int32 × zS) :=
  if w0 = 0 ∨ w0 = 1 then some (w0, s) else none
set_option maxRecDepth 20000 in
theorem b_X0_breakIt_45 {X : zX} (hX : zx_ok X cX0_breakIt RX0 4) (hT : zx_rt X (some .boolean) (zR 1 23)) : ∀ (w0 : Int32) (s : zS), zV X (zq X zrI) 4 45 [] [.int w0] s (f_X0_breakIt_45 w0 s) := by
  intro w0 s
  unfold f_X0_breakIt_45
  exact zv_iretzB hX hT dX0_breakIt_45
def f_X0_breakIt_44  (s : zS) : Option (Int32 × zS) :=
  f_X0_breakIt_45 (0 : Int32) s
set_option maxRecDepth 20000 in
theorem b_X0_breakIt_44 {X : zX} (hX : zx_ok X cX0_breakIt RX0 4) (hT : zx_rt X (some .boolean) (zR 1 23)) : ∀  (s : zS), zV X (zq X zrI) 4 44 [] [] s (f_X0_breakIt_44  s) := by
  intro  s
  unfold f_X0_breakIt_44
  refine zv_iconst (v := (0 : Int32)) hX dX0_breakIt_44 zi_i_0 ?_
  exact b_X0_breakIt_45 hX hT (0 : Int32) s
def f_X0_breakIt (v1 : Nat) (v2 : Int32) (v3 : Int32) (s : zS) : Option (Int32 × zS) :=
  zbd (f_X0_areKnownToMatch v2 v3 s) fun r1 s2 =>
  if r1 = 0 then
  (f_X0_breakIt_44 s2)
  else
  (zr_i s2 v1 v2).bind fun x3 =>
  if x3 = v3 then
  (f_X0_breakIt_44 s2)
  else
  (zr_i s2 v1 v2).bind fun x4 =>
  zbd (f_X0_leaves v2 v3 x4 s2) fun r5 s6 =>
  if r5 = 0 then
  (f_X0_breakIt_44 s6)
  else
  (zr_i s6 v1 v3).bind fun x7 =>
  zbd (f_X0_leaves v3 v2 x7 s6) fun r8 s9 =>
  if r8 = 0 then
  (f_X0_breakIt_44 s9)
  else
  f_X0_breakIt_45 (1 : Int32) s9
set_option maxRecDepth 20000 in
theorem c_X0_breakIt (Y : zG) (v1 : Nat) (v2 : Int32) (v3 : Int32) (s : zS) : zM Y yX0_breakIt cX0_breakIt 4 (some .boolean) (zR 1 23) [.ref (zy_a Y 60), .ref (zy_a Y v1), .int v2, .int v3] s zrI (f_X0_breakIt v1 v2 v3 s) := by
  refine zm_start (by decide +kernel) (Nat.le_of_ble_eq_true rfl) ?_
  intro X hY hT hX
  subst hY
  have hX : zx_ok X cX0_breakIt RX0 4 := hX
  show zV X (zq X zrI) 4 0 [(0, .ref (zx_ad X 60)), (1, .ref (zx_ad X v1)), (2, .int v2), (3, .int v3)] [] s _
  unfold f_X0_breakIt
  refine zv_aload_n hX dX0_breakIt_0 0 rfl ?_
  refine zv_iload_n hX dX0_breakIt_1 2 rfl ?_
  refine zv_iload_n hX dX0_breakIt_2 3 rfl ?_
  refine zv_cVI [.int v2, .int v3] (rest := []) hX hT.2.2.2.2 (c_X0_areKnownToMatch (zx_Y X) v2 v3 s) wv_X0_areKnownToMatch c9_0 zd_60 wm_X0_82 rfl (Nat.le_of_ble_eq_true rfl) (Nat.le_of_ble_eq_true rfl) rfl (Nat.le_of_ble_eq_true rfl) dX0_breakIt_3 (fun r1 s2 => ?_)
  refine zv_if_eq (tgt := 44) hX dX0_breakIt_6 rfl ?_ ?_
  · exact zv_sub [] rfl (b_X0_breakIt_44 hX hT  s2)
  · refine zv_aload_n hX dX0_breakIt_9 1 rfl ?_
    refine zv_iload_n hX dX0_breakIt_10 2 rfl ?_
    refine zv_iald hX dX0_breakIt_11 (fun x3 => ?_)
    refine zv_iload_n hX dX0_breakIt_12 3 rfl ?_
    refine zv_icmp_eq (tgt := 44) hX dX0_breakIt_13 rfl ?_ ?_
    · exact zv_sub [] rfl (b_X0_breakIt_44 hX hT  s2)
    · refine zv_aload_n hX dX0_breakIt_16 0 rfl ?_
      refine zv_iload_n hX dX0_breakIt_17 2 rfl ?_
      refine zv_iload_n hX dX0_breakIt_18 3 rfl ?_
      refine zv_aload_n hX dX0_breakIt_19 1 rfl ?_
      refine zv_iload_n hX dX0_breakIt_20 2 rfl ?_
      refine zv_iald hX dX0_breakIt_21 (fun x4 => ?_)
      refine zv_cVI [.int v2, .int v3, .int x4] (rest := []) hX hT.2.2.2.2 (c_X0_leaves (zx_Y X) v2 v3 x4 s2) wv_X0_leaves c9_0 zd_60 wm_X0_85 rfl (Nat.le_of_ble_eq_true rfl) (Nat.le_of_ble_eq_true rfl) rfl (Nat.le_of_ble_eq_true rfl) dX0_breakIt_22 (fun r5 s6 => ?_)
      refine zv_if_eq (tgt := 44) hX dX0_breakIt_25 rfl ?_ ?_
      · exact zv_sub [] rfl (b_X0_breakIt_44 hX hT  s6)
      · refine zv_aload_n hX dX0_breakIt_28 0 rfl ?_
        refine zv_iload_n hX dX0_breakIt_29 3 rfl ?_
        refine zv_iload_n hX dX0_breakIt_30 2 rfl ?_
        refine zv_aload_n hX dX0_breakIt_31 1 rfl ?_
        refine zv_iload_n hX dX0_breakIt_32 3 rfl ?_
        refine zv_iald hX dX0_breakIt_33 (fun x7 => ?_)
        refine zv_cVI [.int v3, .int v2, .int x7] (rest := []) hX hT.2.2.2.2 (c_X0_leaves (zx_Y X) v3 v2 x7 s6) wv_X0_leaves c9_0 zd_60 wm_X0_85 rfl (Nat.le_of_ble_eq_true rfl) (Nat.le_of_ble_eq_true rfl) rfl (Nat.le_of_ble_eq_true rfl) dX0_breakIt_34 (fun r8 s9 => ?_)
        refine zv_if_eq (tgt := 44) hX dX0_breakIt_37 rfl ?_ ?_
        · exact zv_sub [] rfl (b_X0_breakIt_44 hX hT  s9)
        · refine zv_iconst (v := (1 : Int32)) hX dX0_breakIt_40 zi_i_1 ?_
          refine zv_goto (tgt := 45) hX dX0_breakIt_41 rfl ?_
          exact zv_sub [] rfl (b_X0_breakIt_45 hX hT (1 : Int32) s9)
theorem dX0_holdsAmong_0 : decode cX0_holdsAmong 0 = .ok (.iconst 0, 1) := by decide +kernel
theorem dX0_holdsAmong_1 : decode cX0_holdsAmong 1 = .ok (.istore_n 3, 1) := by decide +kernel
theorem dX0_holdsAmong_2 : decode cX0_holdsAmong 2 = .ok (.iload_n 3, 1) := by decide +kernel
theorem dX0_holdsAmong_3 : decode cX0_holdsAmong 3 = .ok (.aload_n 0, 1) := by decide +kernel
theorem dX0_holdsAmong_4 : decode cX0_holdsAmong 4 = .ok (.getfield 33, 3) := by decide +kernel
theorem dX0_holdsAmong_7 : decode cX0_holdsAmong 7 = .ok (.getfield 65, 3) := by decide +kernel
theorem dX0_holdsAmong_10 : decode cX0_holdsAmong 10 = .ok (.if_icmp .ge 85, 3) := by decide +kernel
theorem dX0_holdsAmong_13 : decode cX0_holdsAmong 13 = .ok (.iload_n 2, 1) := by decide +kernel
theorem dX0_holdsAmong_14 : decode cX0_holdsAmong 14 = .ok (.iload_n 3, 1) := by decide +kernel
theorem dX0_holdsAmong_15 : decode cX0_holdsAmong 15 = .ok (.iushr, 1) := by decide +kernel
theorem dX0_holdsAmong_16 : decode cX0_holdsAmong 16 = .ok (.iconst 1, 1) := by decide +kernel
theorem dX0_holdsAmong_17 : decode cX0_holdsAmong 17 = .ok (.iand, 1) := by decide +kernel
theorem dX0_holdsAmong_18 : decode cX0_holdsAmong 18 = .ok (.ifCond .ne 6, 3) := by decide +kernel
theorem dX0_holdsAmong_21 : decode cX0_holdsAmong 21 = .ok (.goto 68, 3) := by decide +kernel
theorem dX0_holdsAmong_24 : decode cX0_holdsAmong 24 = .ok (.aload_n 1, 1) := by decide +kernel
theorem dX0_holdsAmong_25 : decode cX0_holdsAmong 25 = .ok (.iload_n 3, 1) := by decide +kernel
theorem dX0_holdsAmong_26 : decode cX0_holdsAmong 26 = .ok (.iaload, 1) := by decide +kernel
theorem dX0_holdsAmong_27 : decode cX0_holdsAmong 27 = .ok (.ifCond .lt 16, 3) := by decide +kernel
theorem dX0_holdsAmong_30 : decode cX0_holdsAmong 30 = .ok (.aload_n 0, 1) := by decide +kernel
theorem dX0_holdsAmong_31 : decode cX0_holdsAmong 31 = .ok (.iload_n 3, 1) := by decide +kernel
theorem dX0_holdsAmong_32 : decode cX0_holdsAmong 32 = .ok (.aload_n 1, 1) := by decide +kernel
theorem dX0_holdsAmong_33 : decode cX0_holdsAmong 33 = .ok (.iload_n 3, 1) := by decide +kernel
theorem dX0_holdsAmong_34 : decode cX0_holdsAmong 34 = .ok (.iaload, 1) := by decide +kernel
theorem dX0_holdsAmong_35 : decode cX0_holdsAmong 35 = .ok (.invokevirtual 82, 3) := by decide +kernel
theorem dX0_holdsAmong_38 : decode cX0_holdsAmong 38 = .ok (.ifCond .ne 5, 3) := by decide +kernel
theorem dX0_holdsAmong_41 : decode cX0_holdsAmong 41 = .ok (.iconst 0, 1) := by decide +kernel
theorem dX0_holdsAmong_42 : decode cX0_holdsAmong 42 = .ok (.ireturn, 1) := by decide +kernel
theorem dX0_holdsAmong_43 : decode cX0_holdsAmong 43 = .ok (.iload_n 3, 1) := by decide +kernel
theorem dX0_holdsAmong_44 : decode cX0_holdsAmong 44 = .ok (.iconst 1, 1) := by decide +kernel
theorem dX0_holdsAmong_45 : decode cX0_holdsAmong 45 = .ok (.iadd, 1) := by decide +kernel
theorem dX0_holdsAmong_46 : decode cX0_holdsAmong 46 = .ok (.istore 4, 2) := by decide +kernel
theorem dX0_holdsAmong_48 : decode cX0_holdsAmong 48 = .ok (.iload 4, 2) := by decide +kernel
theorem dX0_holdsAmong_50 : decode cX0_holdsAmong 50 = .ok (.aload_n 0, 1) := by decide +kernel
theorem dX0_holdsAmong_51 : decode cX0_holdsAmong 51 = .ok (.getfield 33, 3) := by decide +kernel
theorem dX0_holdsAmong_54 : decode cX0_holdsAmong 54 = .ok (.getfield 65, 3) := by decide +kernel
theorem dX0_holdsAmong_57 : decode cX0_holdsAmong 57 = .ok (.if_icmp .ge 32, 3) := by decide +kernel
theorem dX0_holdsAmong_60 : decode cX0_holdsAmong 60 = .ok (.iload_n 2, 1) := by decide +kernel
theorem dX0_holdsAmong_61 : decode cX0_holdsAmong 61 = .ok (.iload 4, 2) := by decide +kernel
theorem dX0_holdsAmong_63 : decode cX0_holdsAmong 63 = .ok (.iushr, 1) := by decide +kernel
theorem dX0_holdsAmong_64 : decode cX0_holdsAmong 64 = .ok (.iconst 1, 1) := by decide +kernel
theorem dX0_holdsAmong_65 : decode cX0_holdsAmong 65 = .ok (.iand, 1) := by decide +kernel
theorem dX0_holdsAmong_66 : decode cX0_holdsAmong 66 = .ok (.iconst 1, 1) := by decide +kernel
theorem dX0_holdsAmong_67 : decode cX0_holdsAmong 67 = .ok (.if_icmp .ne 16, 3) := by decide +kernel
theorem dX0_holdsAmong_70 : decode cX0_holdsAmong 70 = .ok (.aload_n 0, 1) := by decide +kernel
theorem dX0_holdsAmong_71 : decode cX0_holdsAmong 71 = .ok (.aload_n 1, 1) := by decide +kernel
theorem dX0_holdsAmong_72 : decode cX0_holdsAmong 72 = .ok (.iload_n 3, 1) := by decide +kernel
theorem dX0_holdsAmong_73 : decode cX0_holdsAmong 73 = .ok (.iload 4, 2) := by decide +kernel
theorem dX0_holdsAmong_75 : decode cX0_holdsAmong 75 = .ok (.invokevirtual 88, 3) := by decide +kernel
theorem dX0_holdsAmong_78 : decode cX0_holdsAmong 78 = .ok (.ifCond .eq 5, 3) := by decide +kernel
theorem dX0_holdsAmong_81 : decode cX0_holdsAmong 81 = .ok (.iconst 0, 1) := by decide +kernel
theorem dX0_holdsAmong_82 : decode cX0_holdsAmong 82 = .ok (.ireturn, 1) := by decide +kernel
theorem dX0_holdsAmong_83 : decode cX0_holdsAmong 83 = .ok (.iinc 4 1, 3) := by decide +kernel
theorem dX0_holdsAmong_86 : decode cX0_holdsAmong 86 = .ok (.goto (-38), 3) := by decide +kernel
theorem dX0_holdsAmong_89 : decode cX0_holdsAmong 89 = .ok (.iinc 3 1, 3) := by decide +kernel
theorem dX0_holdsAmong_92 : decode cX0_holdsAmong 92 = .ok (.goto (-90), 3) := by decide +kernel
theorem dX0_holdsAmong_95 : decode cX0_holdsAmong 95 = .ok (.iconst 1, 1) := by decide +kernel
theorem dX0_holdsAmong_96 : decode cX0_holdsAmong 96 = .ok (.ireturn, 1) := by decide +kernel
def f_X0_holdsAmong_89 (kb_2 : Nat → Int32 → Int32 → zS → Option (Int32 × zS)) (v1 : Nat) (v2 : Int32) (v3 : Int32) (s : zS) : Option (Int32 × zS) :=
  zb (v3 + (1 : Int32)) fun x1 =>
  kb_2 v1 v2 x1 s
set_option maxRecDepth 20000 in
theorem b_X0_holdsAmong_89 {X : zX} {kb_2 : Nat → Int32 → Int32 → zS → Option (Int32 × zS)} (hX : zx_ok X cX0_holdsAmong RX0 5) (hT : zx_rt X (some .boolean) (zR 2 46)) (hk_2 : ∀ (v1 : Nat) (v2 : Int32) (v3 : Int32) (s : zS), zV X (zq X zrI) 5 2 [(0, .ref (zx_ad X 60)), (1, .ref (zx_ad X v1)), (2, .int v2), (3, .int v3)] [] s (kb_2 v1 v2 v3 s)) : ∀ (v1 : Nat) (v2 : Int32) (v3 : Int32) (s : zS), zV X (zq X zrI) 5 89 [(0, .ref (zx_ad X 60)), (1, .ref (zx_ad X v1)), (2, .int v2), (3, .int v3)] [] s (f_X0_holdsAmong_89 kb_2 v1 v2 v3 s) := by
  intro v1 v2 v3 s
  unfold f_X0_holdsAmong_89
  refine zv_iincB (lw := fun x1 => [(3, .int x1), (0, .ref (zx_ad X 60)), (1, .ref (zx_ad X v1)), (2, .int v2)]) hX dX0_holdsAmong_89 3 rfl zi_i_1 (by decide) (fun _ => rfl) (fun x1 => ?_)
  refine zv_goto (tgt := 2) hX dX0_holdsAmong_92 rfl ?_
  exact zv_sub [1, 2, 3, 0] rfl (hk_2 v1 v2 x1 s)
def f_X0_holdsAmong_83 (kb_2 : Nat → Int32 → Int32 → zS → Option (Int32 × zS)) (kb_48 : Nat → Int32 → Int32 → Int32 → zS → Option (Int32 × zS)) (v1 : Nat) (v2 : Int32) (v3 : Int32) (v4 : Int32) (s : zS) : Option (Int32 × zS) :=
  zb (v4 + (1 : Int32)) fun x2 =>
  kb_48 v1 v2 v3 x2 s
set_option maxRecDepth 20000 in
theorem b_X0_holdsAmong_83 {X : zX} {kb_2 : Nat → Int32 → Int32 → zS → Option (Int32 × zS)} {kb_48 : Nat → Int32 → Int32 → Int32 → zS → Option (Int32 × zS)} (hX : zx_ok X cX0_holdsAmong RX0 5) (hT : zx_rt X (some .boolean) (zR 2 46)) (hk_2 : ∀ (v1 : Nat) (v2 : Int32) (v3 : Int32) (s : zS), zV X (zq X zrI) 5 2 [(0, .ref (zx_ad X 60)), (1, .ref (zx_ad X v1)), (2, .int v2), (3, .int v3)] [] s (kb_2 v1 v2 v3 s)) (hk_48 : ∀ (v1 : Nat) (v2 : Int32) (v3 : Int32) (v4 : Int32) (s : zS), zV X (zq X zrI) 5 48 [(0, .ref (zx_ad X 60)), (1, .ref (zx_ad X v1)), (2, .int v2), (3, .int v3), (4, .int v4)] [] s (kb_48 v1 v2 v3 v4 s)) : ∀ (v1 : Nat) (v2 : Int32) (v3 : Int32) (v4 : Int32) (s : zS), zV X (zq X zrI) 5 83 [(0, .ref (zx_ad X 60)), (1, .ref (zx_ad X v1)), (2, .int v2), (3, .int v3), (4, .int v4)] [] s (f_X0_holdsAmong_83 kb_2 kb_48 v1 v2 v3 v4 s) := by
  intro v1 v2 v3 v4 s
  unfold f_X0_holdsAmong_83
  refine zv_iincB (lw := fun x2 => [(4, .int x2), (0, .ref (zx_ad X 60)), (1, .ref (zx_ad X v1)), (2, .int v2), (3, .int v3)]) hX dX0_holdsAmong_83 4 rfl zi_i_1 (by decide) (fun _ => rfl) (fun x2 => ?_)
  refine zv_goto (tgt := 48) hX dX0_holdsAmong_86 rfl ?_
  exact zv_sub [1, 2, 3, 4, 0] rfl (hk_48 v1 v2 v3 x2 s)
def f_X0_holdsAmong_48 (kb_2 : Nat → Int32 → Int32 → zS → Option (Int32 × zS)) : Nat → Nat → Int32 → Int32 → Int32 → zS → Option (Int32 × zS)
  | 0, _, _, _, _, _ => none
  | n + 1, v1, v2, v3, v4, s =>
    if (s.1 3 0) ≤ v4 then
    (f_X0_holdsAmong_89 kb_2 v1 v2 v3 s)
    else
    if ¬ ((zo_ush v2 v4) &&& (1 : Int32)) = (1 : Int32) then
    (f_X0_holdsAmong_83 kb_2 (f_X0_holdsAmong_48 kb_2 n) v1 v2 v3 v4 s)
    else
    zbd (f_X0_breakIt v1 v3 v4 s) fun r3 s4 =>
    if r3 = 0 then
    (f_X0_holdsAmong_83 kb_2 (f_X0_holdsAmong_48 kb_2 n) v1 v2 v3 v4 s4)
    else
    some ((0 : Int32), s4)
set_option maxRecDepth 20000 in
theorem b_X0_holdsAmong_48 {X : zX} {kb_2 : Nat → Int32 → Int32 → zS → Option (Int32 × zS)} (hX : zx_ok X cX0_holdsAmong RX0 5) (hT : zx_rt X (some .boolean) (zR 2 46)) (hk_2 : ∀ (v1 : Nat) (v2 : Int32) (v3 : Int32) (s : zS), zV X (zq X zrI) 5 2 [(0, .ref (zx_ad X 60)), (1, .ref (zx_ad X v1)), (2, .int v2), (3, .int v3)] [] s (kb_2 v1 v2 v3 s)) : ∀ (n : Nat) (v1 : Nat) (v2 : Int32) (v3 : Int32) (v4 : Int32) (s : zS), zV X (zq X zrI) 5 48 [(0, .ref (zx_ad X 60)), (1, .ref (zx_ad X v1)), (2, .int v2), (3, .int v3), (4, .int v4)] [] s (f_X0_holdsAmong_48 kb_2 n v1 v2 v3 v4 s) := by
  intro n
  induction n with
  | zero => intro v1 v2 v3 v4 s; exact zv_none
  | succ n ih =>
    intro v1 v2 v3 v4 s
    rw [f_X0_holdsAmong_48]
    refine zv_iload hX dX0_holdsAmong_48 4 rfl ?_
    refine zv_aload_n hX dX0_holdsAmong_50 0 rfl ?_
    refine zv_geta hX wf_X0_33 wc_0 zd_60 zj_60_0 c9_0 zr_60_0 (by decide) dX0_holdsAmong_51 ?_
    refine zv_geti hX wf_X0_65 wc_5 zd_3 zj_3_0 c9_5 zr_3_0 dX0_holdsAmong_54 ?_
    refine zv_icmp_ge (tgt := 89) hX dX0_holdsAmong_57 rfl ?_ ?_
    · exact zv_sub [0, 1, 2, 3] rfl (b_X0_holdsAmong_89 hX hT hk_2 v1 v2 v3 s)
    · refine zv_iload_n hX dX0_holdsAmong_60 2 rfl ?_
      refine zv_iload hX dX0_holdsAmong_61 4 rfl ?_
      refine zv_iushr hX dX0_holdsAmong_63 ?_
      refine zv_iconst (v := (1 : Int32)) hX dX0_holdsAmong_64 zi_i_1 ?_
      refine zv_iand hX dX0_holdsAmong_65 ?_
      refine zv_iconst (v := (1 : Int32)) hX dX0_holdsAmong_66 zi_i_1 ?_
      refine zv_icmp_ne (tgt := 83) hX dX0_holdsAmong_67 rfl ?_ ?_
      · exact b_X0_holdsAmong_83 hX hT hk_2 ih v1 v2 v3 v4 s
      · refine zv_aload_n hX dX0_holdsAmong_70 0 rfl ?_
        refine zv_aload_n hX dX0_holdsAmong_71 1 rfl ?_
        refine zv_iload_n hX dX0_holdsAmong_72 3 rfl ?_
        refine zv_iload hX dX0_holdsAmong_73 4 rfl ?_
        refine zv_cVI [.ref (zx_ad X v1), .int v3, .int v4] (rest := []) hX hT.2.2.2.2 (c_X0_breakIt (zx_Y X) v1 v3 v4 s) wv_X0_breakIt c9_0 zd_60 wm_X0_88 rfl (Nat.le_of_ble_eq_true rfl) (Nat.le_of_ble_eq_true rfl) rfl (Nat.le_of_ble_eq_true rfl) dX0_holdsAmong_75 (fun r3 s4 => ?_)
        refine zv_if_eq (tgt := 83) hX dX0_holdsAmong_78 rfl ?_ ?_
        · exact b_X0_holdsAmong_83 hX hT hk_2 ih v1 v2 v3 v4 s4
        · refine zv_iconst (v := (0 : Int32)) hX dX0_holdsAmong_81 zi_i_0 ?_
          exact zv_iretz hX hT (by decide) dX0_holdsAmong_82
def f_X0_holdsAmong_43 (kb_2 : Nat → Int32 → Int32 → zS → Option (Int32 × zS)) (v1 : Nat) (v2 : Int32) (v3 : Int32) (s : zS) : Option (Int32 × zS) :=
  zb (v3 + (1 : Int32)) fun x5 =>
  f_X0_holdsAmong_48 kb_2 zFU v1 v2 v3 x5 s
set_option maxRecDepth 20000 in
theorem b_X0_holdsAmong_43 {X : zX} {kb_2 : Nat → Int32 → Int32 → zS → Option (Int32 × zS)} (hX : zx_ok X cX0_holdsAmong RX0 5) (hT : zx_rt X (some .boolean) (zR 2 46)) (hk_2 : ∀ (v1 : Nat) (v2 : Int32) (v3 : Int32) (s : zS), zV X (zq X zrI) 5 2 [(0, .ref (zx_ad X 60)), (1, .ref (zx_ad X v1)), (2, .int v2), (3, .int v3)] [] s (kb_2 v1 v2 v3 s)) : ∀ (v1 : Nat) (v2 : Int32) (v3 : Int32) (s : zS), zV X (zq X zrI) 5 43 [(0, .ref (zx_ad X 60)), (1, .ref (zx_ad X v1)), (2, .int v2), (3, .int v3)] [] s (f_X0_holdsAmong_43 kb_2 v1 v2 v3 s) := by
  intro v1 v2 v3 s
  unfold f_X0_holdsAmong_43
  refine zv_iload_n hX dX0_holdsAmong_43 3 rfl ?_
  refine zv_iconst (v := (1 : Int32)) hX dX0_holdsAmong_44 zi_i_1 ?_
  refine zv_iadd hX dX0_holdsAmong_45 ?_
  refine zv_istB (lw := fun x5 => [(4, .int x5), (0, .ref (zx_ad X 60)), (1, .ref (zx_ad X v1)), (2, .int v2), (3, .int v3)]) hX dX0_holdsAmong_46 (by decide) (fun _ => rfl) (fun x5 => ?_)
  exact zv_sub [1, 2, 3, 4, 0] rfl (b_X0_holdsAmong_48 hX hT hk_2 zFU v1 v2 v3 x5 s)
def f_X0_holdsAmong_2 : Nat → Nat → Int32 → Int32 → zS → Option (Int32 × zS)
  | 0, _, _, _, _ => none
  | n + 1, v1, v2, v3, s =>
    if (s.1 3 0) ≤ v3 then
    (some ((1 : Int32), s))
    else
    if ¬ ((zo_ush v2 v3) &&& (1 : Int32)) = 0 then
    ((zr_i s v1 v3).bind fun x6 =>
    if x6 < 0 then
    (f_X0_holdsAmong_43 (f_X0_holdsAmong_2 n) v1 v2 v3 s)
    else
    (zr_i s v1 v3).bind fun x7 =>
    zbd (f_X0_areKnownToMatch v3 x7 s) fun r8 s9 =>
    if ¬ r8 = 0 then
    (f_X0_holdsAmong_43 (f_X0_holdsAmong_2 n) v1 v2 v3 s9)
    else
    some ((0 : Int32), s9))
    else
    f_X0_holdsAmong_89 (f_X0_holdsAmong_2 n) v1 v2 v3 s
set_option maxRecDepth 20000 in
theorem b_X0_holdsAmong_2 {X : zX} (hX : zx_ok X cX0_holdsAmong RX0 5) (hT : zx_rt X (some .boolean) (zR 2 46)) : ∀ (n : Nat) (v1 : Nat) (v2 : Int32) (v3 : Int32) (s : zS), zV X (zq X zrI) 5 2 [(0, .ref (zx_ad X 60)), (1, .ref (zx_ad X v1)), (2, .int v2), (3, .int v3)] [] s (f_X0_holdsAmong_2 n v1 v2 v3 s) := by
  intro n
  induction n with
  | zero => intro v1 v2 v3 s; exact zv_none
  | succ n ih =>
    intro v1 v2 v3 s
    rw [f_X0_holdsAmong_2]
    refine zv_iload_n hX dX0_holdsAmong_2 3 rfl ?_
    refine zv_aload_n hX dX0_holdsAmong_3 0 rfl ?_
    refine zv_geta hX wf_X0_33 wc_0 zd_60 zj_60_0 c9_0 zr_60_0 (by decide) dX0_holdsAmong_4 ?_
    refine zv_geti hX wf_X0_65 wc_5 zd_3 zj_3_0 c9_5 zr_3_0 dX0_holdsAmong_7 ?_
    refine zv_icmp_ge (tgt := 95) hX dX0_holdsAmong_10 rfl ?_ ?_
    · refine zv_iconst (v := (1 : Int32)) hX dX0_holdsAmong_95 zi_i_1 ?_
      exact zv_iretz hX hT (by decide) dX0_holdsAmong_96
    · refine zv_iload_n hX dX0_holdsAmong_13 2 rfl ?_
      refine zv_iload_n hX dX0_holdsAmong_14 3 rfl ?_
      refine zv_iushr hX dX0_holdsAmong_15 ?_
      refine zv_iconst (v := (1 : Int32)) hX dX0_holdsAmong_16 zi_i_1 ?_
      refine zv_iand hX dX0_holdsAmong_17 ?_
      refine zv_if_ne (tgt := 24) hX dX0_holdsAmong_18 rfl ?_ ?_
      · refine zv_aload_n hX dX0_holdsAmong_24 1 rfl ?_
        refine zv_iload_n hX dX0_holdsAmong_25 3 rfl ?_
        refine zv_iald hX dX0_holdsAmong_26 (fun x6 => ?_)
        refine zv_if_lt (tgt := 43) hX dX0_holdsAmong_27 rfl ?_ ?_
        · exact b_X0_holdsAmong_43 hX hT ih v1 v2 v3 s
        · refine zv_aload_n hX dX0_holdsAmong_30 0 rfl ?_
          refine zv_iload_n hX dX0_holdsAmong_31 3 rfl ?_
          refine zv_aload_n hX dX0_holdsAmong_32 1 rfl ?_
          refine zv_iload_n hX dX0_holdsAmong_33 3 rfl ?_
          refine zv_iald hX dX0_holdsAmong_34 (fun x7 => ?_)
          refine zv_cVI [.int v3, .int x7] (rest := []) hX hT.2.2.2.2 (c_X0_areKnownToMatch (zx_Y X) v3 x7 s) wv_X0_areKnownToMatch c9_0 zd_60 wm_X0_82 rfl (Nat.le_of_ble_eq_true rfl) (Nat.le_of_ble_eq_true rfl) rfl (Nat.le_of_ble_eq_true rfl) dX0_holdsAmong_35 (fun r8 s9 => ?_)
          refine zv_if_ne (tgt := 43) hX dX0_holdsAmong_38 rfl ?_ ?_
          · exact b_X0_holdsAmong_43 hX hT ih v1 v2 v3 s9
          · refine zv_iconst (v := (0 : Int32)) hX dX0_holdsAmong_41 zi_i_0 ?_
            exact zv_iretz hX hT (by decide) dX0_holdsAmong_42
      · refine zv_goto (tgt := 89) hX dX0_holdsAmong_21 rfl ?_
        exact b_X0_holdsAmong_89 hX hT ih v1 v2 v3 s
def f_X0_holdsAmong (v1 : Nat) (v2 : Int32) (s : zS) : Option (Int32 × zS) :=
  f_X0_holdsAmong_2 zFU v1 v2 (0 : Int32) s
set_option maxRecDepth 20000 in
theorem c_X0_holdsAmong (Y : zG) (v1 : Nat) (v2 : Int32) (s : zS) : zM Y yX0_holdsAmong cX0_holdsAmong 5 (some .boolean) (zR 2 46) [.ref (zy_a Y 60), .ref (zy_a Y v1), .int v2] s zrI (f_X0_holdsAmong v1 v2 s) := by
  refine zm_start (by decide +kernel) (Nat.le_of_ble_eq_true rfl) ?_
  intro X hY hT hX
  subst hY
  have hX : zx_ok X cX0_holdsAmong RX0 5 := hX
  show zV X (zq X zrI) 5 0 [(0, .ref (zx_ad X 60)), (1, .ref (zx_ad X v1)), (2, .int v2)] [] s _
  unfold f_X0_holdsAmong
  refine zv_iconst (v := (0 : Int32)) hX dX0_holdsAmong_0 zi_i_0 ?_
  refine zv_istore_n (lv' := [(3, .int (0 : Int32)), (0, .ref (zx_ad X 60)), (1, .ref (zx_ad X v1)), (2, .int v2)]) hX dX0_holdsAmong_1 (by decide) rfl ?_
  exact zv_sub [1, 2, 3, 0] rfl (b_X0_holdsAmong_2 hX hT zFU v1 v2 (0 : Int32) s)
theorem dX0_packed_0 : decode cX0_packed 0 = .ok (.iconst 0, 1) := by decide +kernel
theorem dX0_packed_1 : decode cX0_packed 1 = .ok (.istore_n 2, 1) := by decide +kernel
theorem dX0_packed_2 : decode cX0_packed 2 = .ok (.iconst 0, 1) := by decide +kernel
theorem dX0_packed_3 : decode cX0_packed 3 = .ok (.istore_n 3, 1) := by decide +kernel
theorem dX0_packed_4 : decode cX0_packed 4 = .ok (.iload_n 3, 1) := by decide +kernel
theorem dX0_packed_5 : decode cX0_packed 5 = .ok (.aload_n 0, 1) := by decide +kernel
theorem dX0_packed_6 : decode cX0_packed 6 = .ok (.getfield 33, 3) := by decide +kernel
theorem dX0_packed_9 : decode cX0_packed 9 = .ok (.getfield 65, 3) := by decide +kernel
theorem dX0_packed_12 : decode cX0_packed 12 = .ok (.if_icmp .ge 33, 3) := by decide +kernel
theorem dX0_packed_15 : decode cX0_packed 15 = .ok (.iload_n 1, 1) := by decide +kernel
theorem dX0_packed_16 : decode cX0_packed 16 = .ok (.iload_n 3, 1) := by decide +kernel
theorem dX0_packed_17 : decode cX0_packed 17 = .ok (.iushr, 1) := by decide +kernel
theorem dX0_packed_18 : decode cX0_packed 18 = .ok (.iconst 1, 1) := by decide +kernel
theorem dX0_packed_19 : decode cX0_packed 19 = .ok (.iand, 1) := by decide +kernel
theorem dX0_packed_20 : decode cX0_packed 20 = .ok (.iconst 1, 1) := by decide +kernel
theorem dX0_packed_21 : decode cX0_packed 21 = .ok (.if_icmp .ne 18, 3) := by decide +kernel
theorem dX0_packed_24 : decode cX0_packed 24 = .ok (.iload_n 2, 1) := by decide +kernel
theorem dX0_packed_25 : decode cX0_packed 25 = .ok (.aload_n 0, 1) := by decide +kernel
theorem dX0_packed_26 : decode cX0_packed 26 = .ok (.getfield 21, 3) := by decide +kernel
theorem dX0_packed_29 : decode cX0_packed 29 = .ok (.iload_n 3, 1) := by decide +kernel
theorem dX0_packed_30 : decode cX0_packed 30 = .ok (.iaload, 1) := by decide +kernel
theorem dX0_packed_31 : decode cX0_packed 31 = .ok (.iconst 1, 1) := by decide +kernel
theorem dX0_packed_32 : decode cX0_packed 32 = .ok (.iadd, 1) := by decide +kernel
theorem dX0_packed_33 : decode cX0_packed 33 = .ok (.iconst 4, 1) := by decide +kernel
theorem dX0_packed_34 : decode cX0_packed 34 = .ok (.iload_n 3, 1) := by decide +kernel
theorem dX0_packed_35 : decode cX0_packed 35 = .ok (.imul, 1) := by decide +kernel
theorem dX0_packed_36 : decode cX0_packed 36 = .ok (.ishl, 1) := by decide +kernel
theorem dX0_packed_37 : decode cX0_packed 37 = .ok (.ior, 1) := by decide +kernel
theorem dX0_packed_38 : decode cX0_packed 38 = .ok (.istore_n 2, 1) := by decide +kernel
theorem dX0_packed_39 : decode cX0_packed 39 = .ok (.iinc 3 1, 3) := by decide +kernel
theorem dX0_packed_42 : decode cX0_packed 42 = .ok (.goto (-38), 3) := by decide +kernel
theorem dX0_packed_45 : decode cX0_packed 45 = .ok (.iload_n 2, 1) := by decide +kernel
theorem dX0_packed_46 : decode cX0_packed 46 = .ok (.ireturn, 1) := by decide +kernel
def f_X0_packed_39 (kb_4 : Int32 → Int32 → Int32 → zS → Option (Int32 × zS)) (v1 : Int32) (v2 : Int32) (v3 : Int32) (s : zS) : Option (Int32 × zS) :=
  zb (v3 + (1 : Int32)) fun x1 =>
  kb_4 v1 v2 x1 s
set_option maxRecDepth 20000 in
theorem b_X0_packed_39 {X : zX} {kb_4 : Int32 → Int32 → Int32 → zS → Option (Int32 × zS)} (hX : zx_ok X cX0_packed RX0 4) (hT : zx_rt X (some .int) (zR 0 0)) (hk_4 : ∀ (v1 : Int32) (v2 : Int32) (v3 : Int32) (s : zS), zV X (zq X zrI) 4 4 [(0, .ref (zx_ad X 60)), (1, .int v1), (2, .int v2), (3, .int v3)] [] s (kb_4 v1 v2 v3 s)) : ∀ (v1 : Int32) (v2 : Int32) (v3 : Int32) (s : zS), zV X (zq X zrI) 4 39 [(0, .ref (zx_ad X 60)), (1, .int v1), (2, .int v2), (3, .int v3)] [] s (f_X0_packed_39 kb_4 v1 v2 v3 s) := by
  intro v1 v2 v3 s
  unfold f_X0_packed_39
  refine zv_iincB (lw := fun x1 => [(3, .int x1), (0, .ref (zx_ad X 60)), (1, .int v1), (2, .int v2)]) hX dX0_packed_39 3 rfl zi_i_1 (by decide) (fun _ => rfl) (fun x1 => ?_)
  refine zv_goto (tgt := 4) hX dX0_packed_42 rfl ?_
  exact zv_sub [1, 2, 3, 0] rfl (hk_4 v1 v2 x1 s)
def f_X0_packed_4 : Nat → Int32 → Int32 → Int32 → zS → Option (Int32 × zS)
  | 0, _, _, _, _ => none
  | n + 1, v1, v2, v3, s =>
    if (s.1 3 0) ≤ v3 then
    (some (v2, s))
    else
    if ¬ ((zo_ush v1 v3) &&& (1 : Int32)) = (1 : Int32) then
    (f_X0_packed_39 (f_X0_packed_4 n) v1 v2 v3 s)
    else
    (zr_i s 64 v3).bind fun x2 =>
    zb (v2 ||| (zo_shl (x2 + (1 : Int32)) ((nI 4) * v3))) fun x3 =>
    f_X0_packed_39 (f_X0_packed_4 n) v1 x3 v3 s
set_option maxRecDepth 20000 in
theorem b_X0_packed_4 {X : zX} (hX : zx_ok X cX0_packed RX0 4) (hT : zx_rt X (some .int) (zR 0 0)) : ∀ (n : Nat) (v1 : Int32) (v2 : Int32) (v3 : Int32) (s : zS), zV X (zq X zrI) 4 4 [(0, .ref (zx_ad X 60)), (1, .int v1), (2, .int v2), (3, .int v3)] [] s (f_X0_packed_4 n v1 v2 v3 s) := by
  intro n
  induction n with
  | zero => intro v1 v2 v3 s; exact zv_none
  | succ n ih =>
    intro v1 v2 v3 s
    rw [f_X0_packed_4]
    refine zv_iload_n hX dX0_packed_4 3 rfl ?_
    refine zv_aload_n hX dX0_packed_5 0 rfl ?_
    refine zv_geta hX wf_X0_33 wc_0 zd_60 zj_60_0 c9_0 zr_60_0 (by decide) dX0_packed_6 ?_
    refine zv_geti hX wf_X0_65 wc_5 zd_3 zj_3_0 c9_5 zr_3_0 dX0_packed_9 ?_
    refine zv_icmp_ge (tgt := 45) hX dX0_packed_12 rfl ?_ ?_
    · refine zv_iload_n hX dX0_packed_45 2 rfl ?_
      exact zv_ireti hX hT dX0_packed_46
    · refine zv_iload_n hX dX0_packed_15 1 rfl ?_
      refine zv_iload_n hX dX0_packed_16 3 rfl ?_
      refine zv_iushr hX dX0_packed_17 ?_
      refine zv_iconst (v := (1 : Int32)) hX dX0_packed_18 zi_i_1 ?_
      refine zv_iand hX dX0_packed_19 ?_
      refine zv_iconst (v := (1 : Int32)) hX dX0_packed_20 zi_i_1 ?_
      refine zv_icmp_ne (tgt := 39) hX dX0_packed_21 rfl ?_ ?_
      · exact b_X0_packed_39 hX hT ih v1 v2 v3 s
      · refine zv_iload_n hX dX0_packed_24 2 rfl ?_
        refine zv_aload_n hX dX0_packed_25 0 rfl ?_
        refine zv_geta hX wf_X0_21 wc_0 zd_60 zj_60_6 c9_0 zr_60_6 (by decide) dX0_packed_26 ?_
        refine zv_iload_n hX dX0_packed_29 3 rfl ?_
        refine zv_iald hX dX0_packed_30 (fun x2 => ?_)
        refine zv_iconst (v := (1 : Int32)) hX dX0_packed_31 zi_i_1 ?_
        refine zv_iadd hX dX0_packed_32 ?_
        refine zv_iconst (v := (nI 4)) hX dX0_packed_33 zi_i_4 ?_
        refine zv_iload_n hX dX0_packed_34 3 rfl ?_
        refine zv_imul hX dX0_packed_35 ?_
        refine zv_ishl hX dX0_packed_36 ?_
        refine zv_ior hX dX0_packed_37 ?_
        refine zv_istB_n (lw := fun x3 => [(2, .int x3), (0, .ref (zx_ad X 60)), (1, .int v1), (3, .int v3)]) hX dX0_packed_38 (by decide) (fun _ => rfl) (fun x3 => ?_)
        exact zv_sub [1, 2, 0, 3] rfl (b_X0_packed_39 hX hT ih v1 x3 v3 s)
def f_X0_packed (v1 : Int32) (s : zS) : Option (Int32 × zS) :=
  f_X0_packed_4 zFU v1 (0 : Int32) (0 : Int32) s
set_option maxRecDepth 20000 in
theorem c_X0_packed (Y : zG) (v1 : Int32) (s : zS) : zM Y yX0_packed cX0_packed 4 (some .int) (zR 0 0) [.ref (zy_a Y 60), .int v1] s zrI (f_X0_packed v1 s) := by
  refine zm_start (by decide +kernel) (Nat.le_of_ble_eq_true rfl) ?_
  intro X hY hT hX
  subst hY
  have hX : zx_ok X cX0_packed RX0 4 := hX
  show zV X (zq X zrI) 4 0 [(0, .ref (zx_ad X 60)), (1, .int v1)] [] s _
  unfold f_X0_packed
  refine zv_iconst (v := (0 : Int32)) hX dX0_packed_0 zi_i_0 ?_
  refine zv_istore_n (lv' := [(2, .int (0 : Int32)), (0, .ref (zx_ad X 60)), (1, .int v1)]) hX dX0_packed_1 (by decide) rfl ?_
  refine zv_iconst (v := (0 : Int32)) hX dX0_packed_2 zi_i_0 ?_
  refine zv_istore_n (lv' := [(3, .int (0 : Int32)), (2, .int (0 : Int32)), (0, .ref (zx_ad X 60)), (1, .int v1)]) hX dX0_packed_3 (by decide) rfl ?_
  exact zv_sub [2, 3, 1, 0] rfl (b_X0_packed_4 hX hT zFU v1 (0 : Int32) (0 : Int32) s)
