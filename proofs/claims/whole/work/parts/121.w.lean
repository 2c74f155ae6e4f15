theorem dX7_breaking_0 : decode cX7_breaking 0 = .ok (.aload_n 0, 1) := by decide +kernel
theorem dX7_breaking_1 : decode cX7_breaking 1 = .ok (.getfield 45, 3) := by decide +kernel
theorem dX7_breaking_4 : decode cX7_breaking 4 = .ok (.invokevirtual 205, 3) := by decide +kernel
theorem dX7_breaking_7 : decode cX7_breaking 7 = .ok (.iconst 0, 1) := by decide +kernel
theorem dX7_breaking_8 : decode cX7_breaking 8 = .ok (.istore_n 1, 1) := by decide +kernel
theorem dX7_breaking_9 : decode cX7_breaking 9 = .ok (.iload_n 1, 1) := by decide +kernel
theorem dX7_breaking_10 : decode cX7_breaking 10 = .ok (.aload_n 0, 1) := by decide +kernel
theorem dX7_breaking_11 : decode cX7_breaking 11 = .ok (.getfield 20, 3) := by decide +kernel
theorem dX7_breaking_14 : decode cX7_breaking 14 = .ok (.getfield 215, 3) := by decide +kernel
theorem dX7_breaking_17 : decode cX7_breaking 17 = .ok (.if_icmp .ge 56, 3) := by decide +kernel
theorem dX7_breaking_20 : decode cX7_breaking 20 = .ok (.iload_n 1, 1) := by decide +kernel
theorem dX7_breaking_21 : decode cX7_breaking 21 = .ok (.iconst 1, 1) := by decide +kernel
theorem dX7_breaking_22 : decode cX7_breaking 22 = .ok (.iadd, 1) := by decide +kernel
theorem dX7_breaking_23 : decode cX7_breaking 23 = .ok (.istore_n 2, 1) := by decide +kernel
theorem dX7_breaking_24 : decode cX7_breaking 24 = .ok (.iload_n 2, 1) := by decide +kernel
theorem dX7_breaking_25 : decode cX7_breaking 25 = .ok (.aload_n 0, 1) := by decide +kernel
theorem dX7_breaking_26 : decode cX7_breaking 26 = .ok (.getfield 20, 3) := by decide +kernel
theorem dX7_breaking_29 : decode cX7_breaking 29 = .ok (.getfield 215, 3) := by decide +kernel
theorem dX7_breaking_32 : decode cX7_breaking 32 = .ok (.if_icmp .ge 35, 3) := by decide +kernel
theorem dX7_breaking_35 : decode cX7_breaking 35 = .ok (.aload_n 0, 1) := by decide +kernel
theorem dX7_breaking_36 : decode cX7_breaking 36 = .ok (.getfield 45, 3) := by decide +kernel
theorem dX7_breaking_39 : decode cX7_breaking 39 = .ok (.aload_n 0, 1) := by decide +kernel
theorem dX7_breaking_40 : decode cX7_breaking 40 = .ok (.getfield 20, 3) := by decide +kernel
theorem dX7_breaking_43 : decode cX7_breaking 43 = .ok (.getfield 131, 3) := by decide +kernel
theorem dX7_breaking_46 : decode cX7_breaking 46 = .ok (.iload_n 1, 1) := by decide +kernel
theorem dX7_breaking_47 : decode cX7_breaking 47 = .ok (.iload_n 2, 1) := by decide +kernel
theorem dX7_breaking_48 : decode cX7_breaking 48 = .ok (.invokevirtual 218, 3) := by decide +kernel
theorem dX7_breaking_51 : decode cX7_breaking 51 = .ok (.ifCond .eq 10, 3) := by decide +kernel
theorem dX7_breaking_54 : decode cX7_breaking 54 = .ok (.bipush 10, 2) := by decide +kernel
theorem dX7_breaking_56 : decode cX7_breaking 56 = .ok (.iload_n 1, 1) := by decide +kernel
theorem dX7_breaking_57 : decode cX7_breaking 57 = .ok (.imul, 1) := by decide +kernel
theorem dX7_breaking_58 : decode cX7_breaking 58 = .ok (.iload_n 2, 1) := by decide +kernel
theorem dX7_breaking_59 : decode cX7_breaking 59 = .ok (.iadd, 1) := by decide +kernel
theorem dX7_breaking_60 : decode cX7_breaking 60 = .ok (.ireturn, 1) := by decide +kernel
theorem dX7_breaking_61 : decode cX7_breaking 61 = .ok (.iinc 2 1, 3) := by decide +kernel
theorem dX7_breaking_64 : decode cX7_breaking 64 = .ok (.goto (-40), 3) := by decide +kernel
theorem dX7_breaking_67 : decode cX7_breaking 67 = .ok (.iinc 1 1, 3) := by decide +kernel
theorem dX7_breaking_70 : decode cX7_breaking 70 = .ok (.goto (-61), 3) := by decide +kernel
theorem dX7_breaking_73 : decode cX7_breaking 73 = .ok (.iconst (-1), 1) := by decide +kernel
theorem dX7_breaking_74 : decode cX7_breaking 74 = .ok (.ireturn, 1) := by decide +kernel
def f_X7_breaking_24 (kb_9 : Int32 → zS → Option (Int32 × zS)) : Nat → Int32 → Int32 → zS → Option (Int32 × zS)
  | 0, _, _, _ => none
  | n + 1, v1, v2, s =>
    if (s.1 3 0) ≤ v2 then
    (zb (v1 + (1 : Int32)) fun x1 =>
    kb_9 x1 s)
    else
    zbd (f_X0_breakIt 8 v1 v2 s) fun r2 s3 =>
    if r2 = 0 then
    (zb (v2 + (1 : Int32)) fun x4 =>
    f_X7_breaking_24 kb_9 n v1 x4 s3)
    else
    some (((nI 10) * v1) + v2, s3)
set_option maxRecDepth 20000 in
theorem b_X7_breaking_24 {X : zX} {kb_9 : Int32 → zS → Option (Int32 × zS)} (hX : zx_ok X cX7_breaking RX7 3) (hT : zx_rt X (some .int) (zR 6 147)) (hk_9 : ∀ (v1 : Int32) (s : zS), zV X (zq X zrI) 3 9 [(0, .ref (zx_ad X 0)), (1, .int v1)] [] s (kb_9 v1 s)) : ∀ (n : Nat) (v1 : Int32) (v2 : Int32) (s : zS), zV X (zq X zrI) 3 24 [(0, .ref (zx_ad X 0)), (1, .int v1), (2, .int v2)] [] s (f_X7_breaking_24 kb_9 n v1 v2 s) := by
  intro n
  induction n with
  | zero => intro v1 v2 s; exact zv_none
  | succ n ih =>
    intro v1 v2 s
    rw [f_X7_breaking_24]
    refine zv_iload_n hX dX7_breaking_24 2 rfl ?_
    refine zv_aload_n hX dX7_breaking_25 0 rfl ?_
    refine zv_geta hX wf_X7_20 wc_7 zd_0 zj_0_2 c9_7 zr_0_2 (by decide) dX7_breaking_26 ?_
    refine zv_geti hX wf_X7_215 wc_5 zd_3 zj_3_0 c9_5 zr_3_0 dX7_breaking_29 ?_
    refine zv_icmp_ge (tgt := 67) hX dX7_breaking_32 rfl ?_ ?_
    · refine zv_iincB (lw := fun x1 => [(1, .int x1), (0, .ref (zx_ad X 0)), (2, .int v2)]) hX dX7_breaking_67 1 rfl zi_i_1 (by decide) (fun _ => rfl) (fun x1 => ?_)
      refine zv_goto (tgt := 9) hX dX7_breaking_70 rfl ?_
      exact zv_sub [1, 0] rfl (hk_9 x1 s)
    · refine zv_aload_n hX dX7_breaking_35 0 rfl ?_
      refine zv_geta hX wf_X7_45 wc_7 zd_0 zj_0_5 c9_7 zr_0_5 (by decide) dX7_breaking_36 ?_
      refine zv_aload_n hX dX7_breaking_39 0 rfl ?_
      refine zv_geta hX wf_X7_20 wc_7 zd_0 zj_0_2 c9_7 zr_0_2 (by decide) dX7_breaking_40 ?_
      refine zv_geta hX wf_X7_131 wc_5 zd_3 zj_3_6 c9_5 zr_3_6 (by decide) dX7_breaking_43 ?_
      refine zv_iload_n hX dX7_breaking_46 1 rfl ?_
      refine zv_iload_n hX dX7_breaking_47 2 rfl ?_
      refine zv_cVI [.ref (zx_ad X 8), .int v1, .int v2] (rest := []) hX hT.2.2.2.2 (c_X0_breakIt (zx_Y X) 8 v1 v2 s) wv_X0_breakIt c9_0 zd_60 wm_X7_218 rfl (Nat.le_of_ble_eq_true rfl) (Nat.le_of_ble_eq_true rfl) rfl (Nat.le_of_ble_eq_true rfl) dX7_breaking_48 (fun r2 s3 => ?_)
      refine zv_if_eq (tgt := 61) hX dX7_breaking_51 rfl ?_ ?_
      · refine zv_iincB (lw := fun x4 => [(2, .int x4), (0, .ref (zx_ad X 0)), (1, .int v1)]) hX dX7_breaking_61 2 rfl zi_i_1 (by decide) (fun _ => rfl) (fun x4 => ?_)
        refine zv_goto (tgt := 24) hX dX7_breaking_64 rfl ?_
        exact zv_sub [1, 2, 0] rfl (ih v1 x4 s3)
      · refine zv_bipush (v := (nI 10)) hX dX7_breaking_54 zi_b_10 ?_
        refine zv_iload_n hX dX7_breaking_56 1 rfl ?_
        refine zv_imul hX dX7_breaking_57 ?_
        refine zv_iload_n hX dX7_breaking_58 2 rfl ?_
        refine zv_iadd hX dX7_breaking_59 ?_
        exact zv_ireti hX hT dX7_breaking_60
def f_X7_breaking_9 : Nat → Int32 → zS → Option (Int32 × zS)
  | 0, _, _ => none
  | n + 1, v1, s =>
    if (s.1 3 0) ≤ v1 then
    (some ((-1 : Int32), s))
    else
    zb (v1 + (1 : Int32)) fun x5 =>
    f_X7_breaking_24 (f_X7_breaking_9 n) zFU v1 x5 s
set_option maxRecDepth 20000 in
theorem b_X7_breaking_9 {X : zX} (hX : zx_ok X cX7_breaking RX7 3) (hT : zx_rt X (some .int) (zR 6 147)) : ∀ (n : Nat) (v1 : Int32) (s : zS), zV X (zq X zrI) 3 9 [(0, .ref (zx_ad X 0)), (1, .int v1)] [] s (f_X7_breaking_9 n v1 s) := by
  intro n
  induction n with
  | zero => intro v1 s; exact zv_none
  | succ n ih =>
    intro v1 s
    rw [f_X7_breaking_9]
    refine zv_iload_n hX dX7_breaking_9 1 rfl ?_
    refine zv_aload_n hX dX7_breaking_10 0 rfl ?_
    refine zv_geta hX wf_X7_20 wc_7 zd_0 zj_0_2 c9_7 zr_0_2 (by decide) dX7_breaking_11 ?_
    refine zv_geti hX wf_X7_215 wc_5 zd_3 zj_3_0 c9_5 zr_3_0 dX7_breaking_14 ?_
    refine zv_icmp_ge (tgt := 73) hX dX7_breaking_17 rfl ?_ ?_
    · refine zv_iconst (v := (-1 : Int32)) hX dX7_breaking_73 zi_i_m1 ?_
      exact zv_ireti hX hT dX7_breaking_74
    · refine zv_iload_n hX dX7_breaking_20 1 rfl ?_
      refine zv_iconst (v := (1 : Int32)) hX dX7_breaking_21 zi_i_1 ?_
      refine zv_iadd hX dX7_breaking_22 ?_
      refine zv_istB_n (lw := fun x5 => [(2, .int x5), (0, .ref (zx_ad X 0)), (1, .int v1)]) hX dX7_breaking_23 (by decide) (fun _ => rfl) (fun x5 => ?_)
      exact zv_sub [1, 2, 0] rfl (b_X7_breaking_24 hX hT ih zFU v1 x5 s)
def f_X7_breaking  (s : zS) : Option (Int32 × zS) :=
  zbd (f_X0_learnMatches s) fun _ s6 =>
  f_X7_breaking_9 zFU (0 : Int32) s6
set_option maxRecDepth 20000 in
theorem c_X7_breaking (Y : zG)  (s : zS) : zM Y yX7_breaking cX7_breaking 3 (some .int) (zR 6 147) [.ref (zy_a Y 0)] s zrI (f_X7_breaking  s) := by
  refine zm_start (by decide +kernel) (Nat.le_of_ble_eq_true rfl) ?_
  intro X hY hT hX
  subst hY
  have hX : zx_ok X cX7_breaking RX7 3 := hX
  show zV X (zq X zrI) 3 0 [(0, .ref (zx_ad X 0))] [] s _
  unfold f_X7_breaking
  refine zv_aload_n hX dX7_breaking_0 0 rfl ?_
  refine zv_geta hX wf_X7_45 wc_7 zd_0 zj_0_5 c9_7 zr_0_5 (by decide) dX7_breaking_1 ?_
  refine zv_cVV [] (rest := []) hX hT.2.2.2.2 (c_X0_learnMatches (zx_Y X) s) wv_X0_learnMatches c9_0 zd_60 wm_X7_205 rfl (Nat.le_of_ble_eq_true rfl) (Nat.le_of_ble_eq_true rfl) rfl (Nat.le_of_ble_eq_true rfl) dX7_breaking_4 (fun _ s6 => ?_)
  refine zv_iconst (v := (0 : Int32)) hX dX7_breaking_7 zi_i_0 ?_
  refine zv_istore_n (lv' := [(1, .int (0 : Int32)), (0, .ref (zx_ad X 0))]) hX dX7_breaking_8 (by decide) rfl ?_
  exact zv_sub [1, 0] rfl (b_X7_breaking_9 hX hT zFU (0 : Int32) s6)
theorem dX7_breaks_0 : decode cX7_breaks 0 = .ok (.aload_n 0, 1) := by decide +kernel
theorem dX7_breaks_1 : decode cX7_breaks 1 = .ok (.getfield 45, 3) := by decide +kernel
theorem dX7_breaks_4 : decode cX7_breaks 4 = .ok (.invokevirtual 205, 3) := by decide +kernel
theorem dX7_breaks_7 : decode cX7_breaks 7 = .ok (.iconst 0, 1) := by decide +kernel
theorem dX7_breaks_8 : decode cX7_breaks 8 = .ok (.istore_n 1, 1) := by decide +kernel
theorem dX7_breaks_9 : decode cX7_breaks 9 = .ok (.iconst 0, 1) := by decide +kernel
theorem dX7_breaks_10 : decode cX7_breaks 10 = .ok (.istore_n 2, 1) := by decide +kernel
theorem dX7_breaks_11 : decode cX7_breaks 11 = .ok (.iload_n 2, 1) := by decide +kernel
theorem dX7_breaks_12 : decode cX7_breaks 12 = .ok (.aload_n 0, 1) := by decide +kernel
theorem dX7_breaks_13 : decode cX7_breaks 13 = .ok (.getfield 20, 3) := by decide +kernel
theorem dX7_breaks_16 : decode cX7_breaks 16 = .ok (.getfield 215, 3) := by decide +kernel
theorem dX7_breaks_19 : decode cX7_breaks 19 = .ok (.if_icmp .ge 52, 3) := by decide +kernel
theorem dX7_breaks_22 : decode cX7_breaks 22 = .ok (.iload_n 2, 1) := by decide +kernel
theorem dX7_breaks_23 : decode cX7_breaks 23 = .ok (.iconst 1, 1) := by decide +kernel
theorem dX7_breaks_24 : decode cX7_breaks 24 = .ok (.iadd, 1) := by decide +kernel
theorem dX7_breaks_25 : decode cX7_breaks 25 = .ok (.istore_n 3, 1) := by decide +kernel
theorem dX7_breaks_26 : decode cX7_breaks 26 = .ok (.iload_n 3, 1) := by decide +kernel
theorem dX7_breaks_27 : decode cX7_breaks 27 = .ok (.aload_n 0, 1) := by decide +kernel
theorem dX7_breaks_28 : decode cX7_breaks 28 = .ok (.getfield 20, 3) := by decide +kernel
theorem dX7_breaks_31 : decode cX7_breaks 31 = .ok (.getfield 215, 3) := by decide +kernel
theorem dX7_breaks_34 : decode cX7_breaks 34 = .ok (.if_icmp .ge 31, 3) := by decide +kernel
theorem dX7_breaks_37 : decode cX7_breaks 37 = .ok (.aload_n 0, 1) := by decide +kernel
theorem dX7_breaks_38 : decode cX7_breaks 38 = .ok (.getfield 45, 3) := by decide +kernel
theorem dX7_breaks_41 : decode cX7_breaks 41 = .ok (.aload_n 0, 1) := by decide +kernel
theorem dX7_breaks_42 : decode cX7_breaks 42 = .ok (.getfield 20, 3) := by decide +kernel
theorem dX7_breaks_45 : decode cX7_breaks 45 = .ok (.getfield 131, 3) := by decide +kernel
theorem dX7_breaks_48 : decode cX7_breaks 48 = .ok (.iload_n 2, 1) := by decide +kernel
theorem dX7_breaks_49 : decode cX7_breaks 49 = .ok (.iload_n 3, 1) := by decide +kernel
theorem dX7_breaks_50 : decode cX7_breaks 50 = .ok (.invokevirtual 218, 3) := by decide +kernel
theorem dX7_breaks_53 : decode cX7_breaks 53 = .ok (.ifCond .eq 6, 3) := by decide +kernel
theorem dX7_breaks_56 : decode cX7_breaks 56 = .ok (.iinc 1 1, 3) := by decide +kernel
theorem dX7_breaks_59 : decode cX7_breaks 59 = .ok (.iinc 3 1, 3) := by decide +kernel
theorem dX7_breaks_62 : decode cX7_breaks 62 = .ok (.goto (-36), 3) := by decide +kernel
theorem dX7_breaks_65 : decode cX7_breaks 65 = .ok (.iinc 2 1, 3) := by decide +kernel
theorem dX7_breaks_68 : decode cX7_breaks 68 = .ok (.goto (-57), 3) := by decide +kernel
theorem dX7_breaks_71 : decode cX7_breaks 71 = .ok (.iload_n 1, 1) := by decide +kernel
theorem dX7_breaks_72 : decode cX7_breaks 72 = .ok (.ireturn, 1) := by decide +kernel
def f_X7_breaks_59 (kb_11 : Int32 → Int32 → zS → Option (Int32 × zS)) (kb_26 : Int32 → Int32 → Int32 → zS → Option (Int32 × zS)) (v1 : Int32) (v2 : Int32) (v3 : Int32) (s : zS) : Option (Int32 × zS) :=
  zb (v3 + (1 : Int32)) fun x1 =>
  kb_26 v1 v2 x1 s
set_option maxRecDepth 20000 in
theorem b_X7_breaks_59 {X : zX} {kb_11 : Int32 → Int32 → zS → Option (Int32 × zS)} {kb_26 : Int32 → Int32 → Int32 → zS → Option (Int32 × zS)} (hX : zx_ok X cX7_breaks RX7 4) (hT : zx_rt X (some .int) (zR 6 147)) (hk_11 : ∀ (v1 : Int32) (v2 : Int32) (s : zS), zV X (zq X zrI) 4 11 [(0, .ref (zx_ad X 0)), (1, .int v1), (2, .int v2)] [] s (kb_11 v1 v2 s)) (hk_26 : ∀ (v1 : Int32) (v2 : Int32) (v3 : Int32) (s : zS), zV X (zq X zrI) 4 26 [(0, .ref (zx_ad X 0)), (1, .int v1), (2, .int v2), (3, .int v3)] [] s (kb_26 v1 v2 v3 s)) : ∀ (v1 : Int32) (v2 : Int32) (v3 : Int32) (s : zS), zV X (zq X zrI) 4 59 [(0, .ref (zx_ad X 0)), (1, .int v1), (2, .int v2), (3, .int v3)] [] s (f_X7_breaks_59 kb_11 kb_26 v1 v2 v3 s) := by
  intro v1 v2 v3 s
  unfold f_X7_breaks_59
  refine zv_iincB (lw := fun x1 => [(3, .int x1), (0, .ref (zx_ad X 0)), (1, .int v1), (2, .int v2)]) hX dX7_breaks_59 3 rfl zi_i_1 (by decide) (fun _ => rfl) (fun x1 => ?_)
  refine zv_goto (tgt := 26) hX dX7_breaks_62 rfl ?_
  exact zv_sub [1, 2, 3, 0] rfl (hk_26 v1 v2 x1 s)
def f_X7_breaks_26 (kb_11 : Int32 → Int32 → zS → Option (Int32 × zS)) : Nat → Int32 → Int32 → Int32 → zS → Option (Int32 × zS)
  | 0, _, _, _, _ => none
  | n + 1, v1, v2, v3, s =>
    if (s.1 3 0) ≤ v3 then
    (zb (v2 + (1 : Int32)) fun x2 =>
    kb_11 v1 x2 s)
    else
    zbd (f_X0_breakIt 8 v2 v3 s) fun r3 s4 =>
    if r3 = 0 then
    (f_X7_breaks_59 kb_11 (f_X7_breaks_26 kb_11 n) v1 v2 v3 s4)
    else
    zb (v1 + (1 : Int32)) fun x5 =>
    f_X7_breaks_59 kb_11 (f_X7_breaks_26 kb_11 n) x5 v2 v3 s4
set_option maxRecDepth 20000 in
theorem b_X7_breaks_26 {X : zX} {kb_11 : Int32 → Int32 → zS → Option (Int32 × zS)} (hX : zx_ok X cX7_breaks RX7 4) (hT : zx_rt X (some .int) (zR 6 147)) (hk_11 : ∀ (v1 : Int32) (v2 : Int32) (s : zS), zV X (zq X zrI) 4 11 [(0, .ref (zx_ad X 0)), (1, .int v1), (2, .int v2)] [] s (kb_11 v1 v2 s)) : ∀ (n : Nat) (v1 : Int32) (v2 : Int32) (v3 : Int32) (s : zS), zV X (zq X zrI) 4 26 [(0, .ref (zx_ad X 0)), (1, .int v1), (2, .int v2), (3, .int v3)] [] s (f_X7_breaks_26 kb_11 n v1 v2 v3 s) := by
  intro n
  induction n with
  | zero => intro v1 v2 v3 s; exact zv_none
  | succ n ih =>
    intro v1 v2 v3 s
    rw [f_X7_breaks_26]
    refine zv_iload_n hX dX7_breaks_26 3 rfl ?_
    refine zv_aload_n hX dX7_breaks_27 0 rfl ?_
    refine zv_geta hX wf_X7_20 wc_7 zd_0 zj_0_2 c9_7 zr_0_2 (by decide) dX7_breaks_28 ?_
    refine zv_geti hX wf_X7_215 wc_5 zd_3 zj_3_0 c9_5 zr_3_0 dX7_breaks_31 ?_
    refine zv_icmp_ge (tgt := 65) hX dX7_breaks_34 rfl ?_ ?_
    · refine zv_iincB (lw := fun x2 => [(2, .int x2), (0, .ref (zx_ad X 0)), (1, .int v1), (3, .int v3)]) hX dX7_breaks_65 2 rfl zi_i_1 (by decide) (fun _ => rfl) (fun x2 => ?_)
      refine zv_goto (tgt := 11) hX dX7_breaks_68 rfl ?_
      exact zv_sub [1, 2, 0] rfl (hk_11 v1 x2 s)
    · refine zv_aload_n hX dX7_breaks_37 0 rfl ?_
      refine zv_geta hX wf_X7_45 wc_7 zd_0 zj_0_5 c9_7 zr_0_5 (by decide) dX7_breaks_38 ?_
      refine zv_aload_n hX dX7_breaks_41 0 rfl ?_
      refine zv_geta hX wf_X7_20 wc_7 zd_0 zj_0_2 c9_7 zr_0_2 (by decide) dX7_breaks_42 ?_
      refine zv_geta hX wf_X7_131 wc_5 zd_3 zj_3_6 c9_5 zr_3_6 (by decide) dX7_breaks_45 ?_
      refine zv_iload_n hX dX7_breaks_48 2 rfl ?_
      refine zv_iload_n hX dX7_breaks_49 3 rfl ?_
      refine zv_cVI [.ref (zx_ad X 8), .int v2, .int v3] (rest := []) hX hT.2.2.2.2 (c_X0_breakIt (zx_Y X) 8 v2 v3 s) wv_X0_breakIt c9_0 zd_60 wm_X7_218 rfl (Nat.le_of_ble_eq_true rfl) (Nat.le_of_ble_eq_true rfl) rfl (Nat.le_of_ble_eq_true rfl) dX7_breaks_50 (fun r3 s4 => ?_)
      refine zv_if_eq (tgt := 59) hX dX7_breaks_53 rfl ?_ ?_
      · exact b_X7_breaks_59 hX hT hk_11 ih v1 v2 v3 s4
      · refine zv_iincB (lw := fun x5 => [(1, .int x5), (0, .ref (zx_ad X 0)), (2, .int v2), (3, .int v3)]) hX dX7_breaks_56 1 rfl zi_i_1 (by decide) (fun _ => rfl) (fun x5 => ?_)
        exact zv_sub [1, 0, 2, 3] rfl (b_X7_breaks_59 hX hT hk_11 ih x5 v2 v3 s4)
def f_X7_breaks_11 : Nat → Int32 → Int32 → zS → Option (Int32 × zS)
  | 0, _, _, _ => none
  | n + 1, v1, v2, s =>
    if (s.1 3 0) ≤ v2 then
    (some (v1, s))
    else
    zb (v2 + (1 : Int32)) fun x6 =>
    f_X7_breaks_26 (f_X7_breaks_11 n) zFU v1 v2 x6 s
set_option maxRecDepth 20000 in
theorem b_X7_breaks_11 {X : zX} (hX : zx_ok X cX7_breaks RX7 4) (hT : zx_rt X (some .int) (zR 6 147)) : ∀ (n : Nat) (v1 : Int32) (v2 : Int32) (s : zS), zV X (zq X zrI) 4 11 [(0, .ref (zx_ad X 0)), (1, .int v1), (2, .int v2)] [] s (f_X7_breaks_11 n v1 v2 s) := by
  intro n
  induction n with
  | zero => intro v1 v2 s; exact zv_none
  | succ n ih =>
    intro v1 v2 s
    rw [f_X7_breaks_11]
    refine zv_iload_n hX dX7_breaks_11 2 rfl ?_
    refine zv_aload_n hX dX7_breaks_12 0 rfl ?_
    refine zv_geta hX wf_X7_20 wc_7 zd_0 zj_0_2 c9_7 zr_0_2 (by decide) dX7_breaks_13 ?_
    refine zv_geti hX wf_X7_215 wc_5 zd_3 zj_3_0 c9_5 zr_3_0 dX7_breaks_16 ?_
    refine zv_icmp_ge (tgt := 71) hX dX7_breaks_19 rfl ?_ ?_
    · refine zv_iload_n hX dX7_breaks_71 1 rfl ?_
      exact zv_ireti hX hT dX7_breaks_72
    · refine zv_iload_n hX dX7_breaks_22 2 rfl ?_
      refine zv_iconst (v := (1 : Int32)) hX dX7_breaks_23 zi_i_1 ?_
      refine zv_iadd hX dX7_breaks_24 ?_
      refine zv_istB_n (lw := fun x6 => [(3, .int x6), (0, .ref (zx_ad X 0)), (1, .int v1), (2, .int v2)]) hX dX7_breaks_25 (by decide) (fun _ => rfl) (fun x6 => ?_)
      exact zv_sub [1, 2, 3, 0] rfl (b_X7_breaks_26 hX hT ih zFU v1 v2 x6 s)
def f_X7_breaks  (s : zS) : Option (Int32 × zS) :=
  zbd (f_X0_learnMatches s) fun _ s7 =>
  f_X7_breaks_11 zFU (0 : Int32) (0 : Int32) s7
set_option maxRecDepth 20000 in
theorem c_X7_breaks (Y : zG)  (s : zS) : zM Y yX7_breaks cX7_breaks 4 (some .int) (zR 6 147) [.ref (zy_a Y 0)] s zrI (f_X7_breaks  s) := by
  refine zm_start (by decide +kernel) (Nat.le_of_ble_eq_true rfl) ?_
  intro X hY hT hX
  subst hY
  have hX : zx_ok X cX7_breaks RX7 4 := hX
  show zV X (zq X zrI) 4 0 [(0, .ref (zx_ad X 0))] [] s _
  unfold f_X7_breaks
  refine zv_aload_n hX dX7_breaks_0 0 rfl ?_
  refine zv_geta hX wf_X7_45 wc_7 zd_0 zj_0_5 c9_7 zr_0_5 (by decide) dX7_breaks_1 ?_
  refine zv_cVV [] (rest := []) hX hT.2.2.2.2 (c_X0_learnMatches (zx_Y X) s) wv_X0_learnMatches c9_0 zd_60 wm_X7_205 rfl (Nat.le_of_ble_eq_true rfl) (Nat.le_of_ble_eq_true rfl) rfl (Nat.le_of_ble_eq_true rfl) dX7_breaks_4 (fun _ s7 => ?_)
  refine zv_iconst (v := (0 : Int32)) hX dX7_breaks_7 zi_i_0 ?_
  refine zv_istore_n (lv' := [(1, .int (0 : Int32)), (0, .ref (zx_ad X 0))]) hX dX7_breaks_8 (by decide) rfl ?_
  refine zv_iconst (v := (0 : Int32)) hX dX7_breaks_9 zi_i_0 ?_
  refine zv_istore_n (lv' := [(2, .int (0 : Int32)), (1, .int (0 : Int32)), (0, .ref (zx_ad X 0))]) hX dX7_breaks_10 (by decide) rfl ?_
  exact zv_sub [2, 1, 0] rfl (b_X7_breaks_11 hX hT zFU (0 : Int32) (0 : Int32) s7)
theorem dX7_can_0 : decode cX7_can 0 = .ok (.aload_n 0, 1) := by decide +kernel
theorem dX7_can_1 : decode cX7_can 1 = .ok (.getfield 20, 3) := by decide +kernel
theorem dX7_can_4 : decode cX7_can 4 = .ok (.iload_n 1, 1) := by decide +kernel
theorem dX7_can_5 : decode cX7_can 5 = .ok (.invokevirtual 108, 3) := by decide +kernel
theorem dX7_can_8 : decode cX7_can 8 = .ok (.ifCond .ne 6, 3) := by decide +kernel
theorem dX7_can_11 : decode cX7_can 11 = .ok (.bipush (-2), 2) := by decide +kernel
theorem dX7_can_13 : decode cX7_can 13 = .ok (.ireturn, 1) := by decide +kernel
theorem dX7_can_14 : decode cX7_can 14 = .ok (.aload_n 0, 1) := by decide +kernel
theorem dX7_can_15 : decode cX7_can 15 = .ok (.getfield 45, 3) := by decide +kernel
theorem dX7_can_18 : decode cX7_can 18 = .ok (.invokevirtual 222, 3) := by decide +kernel
theorem dX7_can_21 : decode cX7_can 21 = .ok (.iconst 0, 1) := by decide +kernel
theorem dX7_can_22 : decode cX7_can 22 = .ok (.istore_n 2, 1) := by decide +kernel
theorem dX7_can_23 : decode cX7_can 23 = .ok (.iconst 0, 1) := by decide +kernel
theorem dX7_can_24 : decode cX7_can 24 = .ok (.istore_n 3, 1) := by decide +kernel
theorem dX7_can_25 : decode cX7_can 25 = .ok (.iload_n 3, 1) := by decide +kernel
theorem dX7_can_26 : decode cX7_can 26 = .ok (.aload_n 0, 1) := by decide +kernel
theorem dX7_can_27 : decode cX7_can 27 = .ok (.getfield 45, 3) := by decide +kernel
theorem dX7_can_30 : decode cX7_can 30 = .ok (.getfield 225, 3) := by decide +kernel
theorem dX7_can_33 : decode cX7_can 33 = .ok (.if_icmp .ge 32, 3) := by decide +kernel
theorem dX7_can_36 : decode cX7_can 36 = .ok (.aload_n 0, 1) := by decide +kernel
theorem dX7_can_37 : decode cX7_can 37 = .ok (.getfield 45, 3) := by decide +kernel
theorem dX7_can_40 : decode cX7_can 40 = .ok (.iload_n 3, 1) := by decide +kernel
theorem dX7_can_41 : decode cX7_can 41 = .ok (.iload_n 1, 1) := by decide +kernel
theorem dX7_can_42 : decode cX7_can 42 = .ok (.invokevirtual 228, 3) := by decide +kernel
theorem dX7_can_45 : decode cX7_can 45 = .ok (.istore 4, 2) := by decide +kernel
theorem dX7_can_47 : decode cX7_can 47 = .ok (.iload 4, 2) := by decide +kernel
theorem dX7_can_49 : decode cX7_can 49 = .ok (.ifCond .lt 10, 3) := by decide +kernel
theorem dX7_can_52 : decode cX7_can 52 = .ok (.iload_n 2, 1) := by decide +kernel
theorem dX7_can_53 : decode cX7_can 53 = .ok (.iconst 1, 1) := by decide +kernel
theorem dX7_can_54 : decode cX7_can 54 = .ok (.iload 4, 2) := by decide +kernel
theorem dX7_can_56 : decode cX7_can 56 = .ok (.ishl, 1) := by decide +kernel
theorem dX7_can_57 : decode cX7_can 57 = .ok (.ior, 1) := by decide +kernel
theorem dX7_can_58 : decode cX7_can 58 = .ok (.istore_n 2, 1) := by decide +kernel
theorem dX7_can_59 : decode cX7_can 59 = .ok (.iinc 3 1, 3) := by decide +kernel
theorem dX7_can_62 : decode cX7_can 62 = .ok (.goto (-37), 3) := by decide +kernel
theorem dX7_can_65 : decode cX7_can 65 = .ok (.iload_n 2, 1) := by decide +kernel
theorem dX7_can_66 : decode cX7_can 66 = .ok (.ireturn, 1) := by decide +kernel
def f_X7_can_59 (kb_25 : Int32 → Int32 → Int32 → zS → Option (Int32 × zS)) (v1 : Int32) (v2 : Int32) (v3 : Int32) (s : zS) : Option (Int32 × zS) :=
  zb (v3 + (1 : Int32)) fun x1 =>
  kb_25 v1 v2 x1 s
set_option maxRecDepth 20000 in
theorem b_X7_can_59 {X : zX} {kb_25 : Int32 → Int32 → Int32 → zS → Option (Int32 × zS)} (hX : zx_ok X cX7_can RX7 5) (hT : zx_rt X (some .int) (zR 70 1738)) (hk_25 : ∀ (v1 : Int32) (v2 : Int32) (v3 : Int32) (s : zS), zV X (zq X zrI) 5 25 [(0, .ref (zx_ad X 0)), (1, .int v1), (2, .int v2), (3, .int v3)] [] s (kb_25 v1 v2 v3 s)) : ∀ (v1 : Int32) (v2 : Int32) (v3 : Int32) (s : zS), zV X (zq X zrI) 5 59 [(0, .ref (zx_ad X 0)), (1, .int v1), (2, .int v2), (3, .int v3)] [] s (f_X7_can_59 kb_25 v1 v2 v3 s) := by
  intro v1 v2 v3 s
  unfold f_X7_can_59
  refine zv_iincB (lw := fun x1 => [(3, .int x1), (0, .ref (zx_ad X 0)), (1, .int v1), (2, .int v2)]) hX dX7_can_59 3 rfl zi_i_1 (by decide) (fun _ => rfl) (fun x1 => ?_)
  refine zv_goto (tgt := 25) hX dX7_can_62 rfl ?_
  exact zv_sub [1, 2, 3, 0] rfl (hk_25 v1 v2 x1 s)
def f_X7_can_25 : Nat → Int32 → Int32 → Int32 → zS → Option (Int32 × zS)
  | 0, _, _, _, _ => none
  | n + 1, v1, v2, v3, s =>
    if (s.1 60 8) ≤ v3 then
    (some (v2, s))
    else
    zbd (f_X0_partnerIn v3 v1 s) fun r2 s3 =>
    if r2 < 0 then
    (f_X7_can_59 (f_X7_can_25 n) v1 v2 v3 s3)
    else
    zb (v2 ||| (zo_shl (1 : Int32) r2)) fun x4 =>
    f_X7_can_59 (f_X7_can_25 n) v1 x4 v3 s3
set_option maxRecDepth 20000 in
theorem b_X7_can_25 {X : zX} (hX : zx_ok X cX7_can RX7 5) (hT : zx_rt X (some .int) (zR 70 1738)) : ∀ (n : Nat) (v1 : Int32) (v2 : Int32) (v3 : Int32) (s : zS), zV X (zq X zrI) 5 25 [(0, .ref (zx_ad X 0)), (1, .int v1), (2, .int v2), (3, .int v3)] [] s (f_X7_can_25 n v1 v2 v3 s) := by
  intro n
  induction n with
  | zero => intro v1 v2 v3 s; exact zv_none
  | succ n ih =>
    intro v1 v2 v3 s
    rw [f_X7_can_25]
    refine zv_iload_n hX dX7_can_25 3 rfl ?_
    refine zv_aload_n hX dX7_can_26 0 rfl ?_
    refine zv_geta hX wf_X7_45 wc_7 zd_0 zj_0_5 c9_7 zr_0_5 (by decide) dX7_can_27 ?_
    refine zv_geti hX wf_X7_225 wc_0 zd_60 zj_60_8 c9_0 zr_60_8 dX7_can_30 ?_
    refine zv_icmp_ge (tgt := 65) hX dX7_can_33 rfl ?_ ?_
    · refine zv_iload_n hX dX7_can_65 2 rfl ?_
      exact zv_ireti hX hT dX7_can_66
    · refine zv_aload_n hX dX7_can_36 0 rfl ?_
      refine zv_geta hX wf_X7_45 wc_7 zd_0 zj_0_5 c9_7 zr_0_5 (by decide) dX7_can_37 ?_
      refine zv_iload_n hX dX7_can_40 3 rfl ?_
      refine zv_iload_n hX dX7_can_41 1 rfl ?_
      refine zv_cVI [.int v3, .int v1] (rest := []) hX hT.2.2.2.2 (c_X0_partnerIn (zx_Y X) v3 v1 s) wv_X0_partnerIn c9_0 zd_60 wm_X7_228 rfl (Nat.le_of_ble_eq_true rfl) (Nat.le_of_ble_eq_true rfl) rfl (Nat.le_of_ble_eq_true rfl) dX7_can_42 (fun r2 s3 => ?_)
      refine zv_istore (lv' := [(4, .int r2), (0, .ref (zx_ad X 0)), (1, .int v1), (2, .int v2), (3, .int v3)]) hX dX7_can_45 (by decide) rfl ?_
      refine zv_iload hX dX7_can_47 0 rfl ?_
      refine zv_if_lt (tgt := 59) hX dX7_can_49 rfl ?_ ?_
      · exact zv_sub [1, 2, 3, 4] rfl (b_X7_can_59 hX hT ih v1 v2 v3 s3)
      · refine zv_iload_n hX dX7_can_52 3 rfl ?_
        refine zv_iconst (v := (1 : Int32)) hX dX7_can_53 zi_i_1 ?_
        refine zv_iload hX dX7_can_54 0 rfl ?_
        refine zv_ishl hX dX7_can_56 ?_
        refine zv_ior hX dX7_can_57 ?_
        refine zv_istB_n (lw := fun x4 => [(2, .int x4), (4, .int r2), (0, .ref (zx_ad X 0)), (1, .int v1), (3, .int v3)]) hX dX7_can_58 (by decide) (fun _ => rfl) (fun x4 => ?_)
        exact zv_sub [2, 3, 0, 4] rfl (b_X7_can_59 hX hT ih v1 x4 v3 s3)
def f_X7_can (v1 : Int32) (s : zS) : Option (Int32 × zS) :=
  zbd (f_X5_has_3 v1 s) fun r5 s6 =>
  if ¬ r5 = 0 then
  (zbd (f_X0_learnPairings s6) fun _ s7 =>
  f_X7_can_25 zFU v1 (0 : Int32) (0 : Int32) s7)
  else
  some ((-2 : Int32), s6)
set_option maxRecDepth 20000 in
theorem c_X7_can (Y : zG) (v1 : Int32) (s : zS) : zM Y yX7_can cX7_can 5 (some .int) (zR 70 1738) [.ref (zy_a Y 0), .int v1] s zrI (f_X7_can v1 s) := by
  refine zm_start (by decide +kernel) (Nat.le_of_ble_eq_true rfl) ?_
  intro X hY hT hX
  subst hY
  have hX : zx_ok X cX7_can RX7 5 := hX
  show zV X (zq X zrI) 5 0 [(0, .ref (zx_ad X 0)), (1, .int v1)] [] s _
  unfold f_X7_can
  refine zv_aload_n hX dX7_can_0 0 rfl ?_
  refine zv_geta hX wf_X7_20 wc_7 zd_0 zj_0_2 c9_7 zr_0_2 (by decide) dX7_can_1 ?_
  refine zv_iload_n hX dX7_can_4 1 rfl ?_
  refine zv_cVI [.int v1] (rest := []) hX hT.2.2.2.2 (c_X5_has_3 (zx_Y X) v1 s) wv_X5_has c9_5 zd_3 wm_X7_108 rfl (Nat.le_of_ble_eq_true rfl) (Nat.le_of_ble_eq_true rfl) rfl (Nat.le_of_ble_eq_true rfl) dX7_can_5 (fun r5 s6 => ?_)
  refine zv_if_ne (tgt := 14) hX dX7_can_8 rfl ?_ ?_
  · refine zv_aload_n hX dX7_can_14 0 rfl ?_
    refine zv_geta hX wf_X7_45 wc_7 zd_0 zj_0_5 c9_7 zr_0_5 (by decide) dX7_can_15 ?_
    refine zv_cVV [] (rest := []) hX hT.2.2.2.2 (c_X0_learnPairings (zx_Y X) s6) wv_X0_learnPairings c9_0 zd_60 wm_X7_222 rfl (Nat.le_of_ble_eq_true rfl) (Nat.le_of_ble_eq_true rfl) rfl (Nat.le_of_ble_eq_true rfl) dX7_can_18 (fun _ s7 => ?_)
    refine zv_iconst (v := (0 : Int32)) hX dX7_can_21 zi_i_0 ?_
    refine zv_istore_n (lv' := [(2, .int (0 : Int32)), (0, .ref (zx_ad X 0)), (1, .int v1)]) hX dX7_can_22 (by decide) rfl ?_
    refine zv_iconst (v := (0 : Int32)) hX dX7_can_23 zi_i_0 ?_
    refine zv_istore_n (lv' := [(3, .int (0 : Int32)), (2, .int (0 : Int32)), (0, .ref (zx_ad X 0)), (1, .int v1)]) hX dX7_can_24 (by decide) rfl ?_
    exact zv_sub [2, 3, 1, 0] rfl (b_X7_can_25 hX hT zFU v1 (0 : Int32) (0 : Int32) s7)
  · refine zv_bipush (v := (-2 : Int32)) hX dX7_can_11 zi_b_m2 ?_
    exact zv_ireti hX hT dX7_can_13
theorem dX7_lowestTerm_0 : decode cX7_lowestTerm 0 = .ok (.iload_n 0, 1) := by decide +kernel
theorem dX7_lowestTerm_1 : decode cX7_lowestTerm 1 = .ok (.istore_n 3, 1) := by decide +kernel
theorem dX7_lowestTerm_2 : decode cX7_lowestTerm 2 = .ok (.iload_n 1, 1) := by decide +kernel
theorem dX7_lowestTerm_3 : decode cX7_lowestTerm 3 = .ok (.istore 4, 2) := by decide +kernel
theorem dX7_lowestTerm_5 : decode cX7_lowestTerm 5 = .ok (.iconst 0, 1) := by decide +kernel
theorem dX7_lowestTerm_6 : decode cX7_lowestTerm 6 = .ok (.istore 5, 2) := by decide +kernel
theorem dX7_lowestTerm_8 : decode cX7_lowestTerm 8 = .ok (.iload 5, 2) := by decide +kernel
theorem dX7_lowestTerm_10 : decode cX7_lowestTerm 10 = .ok (.bipush 64, 2) := by decide +kernel
theorem dX7_lowestTerm_12 : decode cX7_lowestTerm 12 = .ok (.if_icmp .ge 27, 3) := by decide +kernel
theorem dX7_lowestTerm_15 : decode cX7_lowestTerm 15 = .ok (.iload 4, 2) := by decide +kernel
theorem dX7_lowestTerm_17 : decode cX7_lowestTerm 17 = .ok (.ifCond .eq 22, 3) := by decide +kernel
theorem dX7_lowestTerm_20 : decode cX7_lowestTerm 20 = .ok (.iload_n 3, 1) := by decide +kernel
theorem dX7_lowestTerm_21 : decode cX7_lowestTerm 21 = .ok (.iload 4, 2) := by decide +kernel
theorem dX7_lowestTerm_23 : decode cX7_lowestTerm 23 = .ok (.irem, 1) := by decide +kernel
theorem dX7_lowestTerm_24 : decode cX7_lowestTerm 24 = .ok (.istore 6, 2) := by decide +kernel
theorem dX7_lowestTerm_26 : decode cX7_lowestTerm 26 = .ok (.iload 4, 2) := by decide +kernel
theorem dX7_lowestTerm_28 : decode cX7_lowestTerm 28 = .ok (.istore_n 3, 1) := by decide +kernel
theorem dX7_lowestTerm_29 : decode cX7_lowestTerm 29 = .ok (.iload 6, 2) := by decide +kernel
theorem dX7_lowestTerm_31 : decode cX7_lowestTerm 31 = .ok (.istore 4, 2) := by decide +kernel
theorem dX7_lowestTerm_33 : decode cX7_lowestTerm 33 = .ok (.iinc 5 1, 3) := by decide +kernel
theorem dX7_lowestTerm_36 : decode cX7_lowestTerm 36 = .ok (.goto (-28), 3) := by decide +kernel
theorem dX7_lowestTerm_39 : decode cX7_lowestTerm 39 = .ok (.iload_n 3, 1) := by decide +kernel
theorem dX7_lowestTerm_40 : decode cX7_lowestTerm 40 = .ok (.ifCond .ne 5, 3) := by decide +kernel
theorem dX7_lowestTerm_43 : decode cX7_lowestTerm 43 = .ok (.iconst (-1), 1) := by decide +kernel
theorem dX7_lowestTerm_44 : decode cX7_lowestTerm 44 = .ok (.ireturn, 1) := by decide +kernel
theorem dX7_lowestTerm_45 : decode cX7_lowestTerm 45 = .ok (.iload_n 2, 1) := by decide +kernel
theorem dX7_lowestTerm_46 : decode cX7_lowestTerm 46 = .ok (.ifCond .ne 9, 3) := by decide +kernel
theorem dX7_lowestTerm_49 : decode cX7_lowestTerm 49 = .ok (.iload_n 0, 1) := by decide +kernel
theorem dX7_lowestTerm_50 : decode cX7_lowestTerm 50 = .ok (.iload_n 3, 1) := by decide +kernel
theorem dX7_lowestTerm_51 : decode cX7_lowestTerm 51 = .ok (.idiv, 1) := by decide +kernel
theorem dX7_lowestTerm_52 : decode cX7_lowestTerm 52 = .ok (.goto 6, 3) := by decide +kernel
theorem dX7_lowestTerm_55 : decode cX7_lowestTerm 55 = .ok (.iload_n 1, 1) := by decide +kernel
theorem dX7_lowestTerm_56 : decode cX7_lowestTerm 56 = .ok (.iload_n 3, 1) := by decide +kernel
theorem dX7_lowestTerm_57 : decode cX7_lowestTerm 57 = .ok (.idiv, 1) := by decide +kernel
theorem dX7_lowestTerm_58 : decode cX7_lowestTerm 58 = .ok (.ireturn, 1) := by decide +kernel
def f_X7_lowestTerm_58 (w0 : Int32) (s : zS) : Option (Int32 × zS) :=
  some (w0, s)
set_option maxRecDepth 20000 in
theorem b_X7_lowestTerm_58 {X : zX} (hX : zx_ok X cX7_lowestTerm RX7 7) (hT : zx_rt X (some .int) (zR 0 0)) : ∀ (w0 : Int32) (s : zS), zV X (zq X zrI) 7 58 [] [.int w0] s (f_X7_lowestTerm_58 w0 s) := by
  intro w0 s
  unfold f_X7_lowestTerm_58
  exact zv_ireti hX hT dX7_lowestTerm_58
def f_X7_lowestTerm_39 (v0 : Int32) (v1 : Int32) (v2 : Int32) (v3 : Int32) (s : zS) : Option (Int32 × zS) :=
  if ¬ v3 = 0 then
  (if ¬ v2 = 0 then
  (if v3 = 0 then none else
  f_X7_lowestTerm_58 (v1 / v3) s)
  else
  if v3 = 0 then none else
  f_X7_lowestTerm_58 (v0 / v3) s)
  else
  some ((-1 : Int32), s)
set_option maxRecDepth 20000 in
theorem b_X7_lowestTerm_39 {X : zX} (hX : zx_ok X cX7_lowestTerm RX7 7) (hT : zx_rt X (some .int) (zR 0 0)) : ∀ (v0 : Int32) (v1 : Int32) (v2 : Int32) (v3 : Int32) (s : zS), zV X (zq X zrI) 7 39 [(0, .int v0), (1, .int v1), (2, .int v2), (3, .int v3)] [] s (f_X7_lowestTerm_39 v0 v1 v2 v3 s) := by
  intro v0 v1 v2 v3 s
  unfold f_X7_lowestTerm_39
  refine zv_iload_n hX dX7_lowestTerm_39 3 rfl ?_
  refine zv_if_ne (tgt := 45) hX dX7_lowestTerm_40 rfl ?_ ?_
  · refine zv_iload_n hX dX7_lowestTerm_45 2 rfl ?_
    refine zv_if_ne (tgt := 55) hX dX7_lowestTerm_46 rfl ?_ ?_
    · refine zv_iload_n hX dX7_lowestTerm_55 1 rfl ?_
      refine zv_iload_n hX dX7_lowestTerm_56 3 rfl ?_
      refine zv_idivB hX dX7_lowestTerm_57 ?_
      exact zv_sub [] rfl (b_X7_lowestTerm_58 hX hT (v1 / v3) s)
    · refine zv_iload_n hX dX7_lowestTerm_49 0 rfl ?_
      refine zv_iload_n hX dX7_lowestTerm_50 3 rfl ?_
      refine zv_idivB hX dX7_lowestTerm_51 ?_
      refine zv_goto (tgt := 58) hX dX7_lowestTerm_52 rfl ?_
      exact zv_sub [] rfl (b_X7_lowestTerm_58 hX hT (v0 / v3) s)
  · refine zv_iconst (v := (-1 : Int32)) hX dX7_lowestTerm_43 zi_i_m1 ?_
    exact zv_ireti hX hT dX7_lowestTerm_44
def f_X7_lowestTerm_8 : Nat → Int32 → Int32 → Int32 → Int32 → Int32 → Int32 → zS → Option (Int32 × zS)
  | 0, _, _, _, _, _, _, _ => none
  | n + 1, v0, v1, v2, v3, v4, v5, s =>
    if (nI 64) ≤ v5 then
    (f_X7_lowestTerm_39 v0 v1 v2 v3 s)
    else
    if v4 = 0 then
    (f_X7_lowestTerm_39 v0 v1 v2 v3 s)
    else
    if v4 = 0 then none else
    zb (zo_rem v3 v4) fun x1 =>
    zb (v5 + (1 : Int32)) fun x2 =>
    f_X7_lowestTerm_8 n v0 v1 v2 v4 x1 x2 s
set_option maxRecDepth 20000 in
theorem b_X7_lowestTerm_8 {X : zX} (hX : zx_ok X cX7_lowestTerm RX7 7) (hT : zx_rt X (some .int) (zR 0 0)) : ∀ (n : Nat) (v0 : Int32) (v1 : Int32) (v2 : Int32) (v3 : Int32) (v4 : Int32) (v5 : Int32) (s : zS), zV X (zq X zrI) 7 8 [(0, .int v0), (1, .int v1), (2, .int v2), (3, .int v3), (4, .int v4), (5, .int v5)] [] s (f_X7_lowestTerm_8 n v0 v1 v2 v3 v4 v5 s) := by
  intro n
  induction n with
  | zero => intro v0 v1 v2 v3 v4 v5 s; exact zv_none
  | succ n ih =>
    intro v0 v1 v2 v3 v4 v5 s
    rw [f_X7_lowestTerm_8]
    refine zv_iload hX dX7_lowestTerm_8 5 rfl ?_
    refine zv_bipush (v := (nI 64)) hX dX7_lowestTerm_10 zi_b_64 ?_
    refine zv_icmp_ge (tgt := 39) hX dX7_lowestTerm_12 rfl ?_ ?_
    · exact zv_sub [0, 1, 2, 3] rfl (b_X7_lowestTerm_39 hX hT v0 v1 v2 v3 s)
    · refine zv_iload hX dX7_lowestTerm_15 4 rfl ?_
      refine zv_if_eq (tgt := 39) hX dX7_lowestTerm_17 rfl ?_ ?_
      · exact zv_sub [0, 1, 2, 3] rfl (b_X7_lowestTerm_39 hX hT v0 v1 v2 v3 s)
      · refine zv_iload_n hX dX7_lowestTerm_20 3 rfl ?_
        refine zv_iload hX dX7_lowestTerm_21 4 rfl ?_
        refine zv_iremB hX dX7_lowestTerm_23 ?_
        refine zv_istB (lw := fun x1 => [(6, .int x1), (0, .int v0), (1, .int v1), (2, .int v2), (3, .int v3), (4, .int v4), (5, .int v5)]) hX dX7_lowestTerm_24 (by decide) (fun _ => rfl) (fun x1 => ?_)
        refine zv_iload hX dX7_lowestTerm_26 5 rfl ?_
        refine zv_istore_n (lv' := [(3, .int v4), (6, .int x1), (0, .int v0), (1, .int v1), (2, .int v2), (4, .int v4), (5, .int v5)]) hX dX7_lowestTerm_28 (by decide) rfl ?_
        refine zv_iload hX dX7_lowestTerm_29 1 rfl ?_
        refine zv_istore (lv' := [(4, .int x1), (3, .int v4), (6, .int x1), (0, .int v0), (1, .int v1), (2, .int v2), (5, .int v5)]) hX dX7_lowestTerm_31 (by decide) rfl ?_
        refine zv_iincB (lw := fun x2 => [(5, .int x2), (4, .int x1), (3, .int v4), (6, .int x1), (0, .int v0), (1, .int v1), (2, .int v2)]) hX dX7_lowestTerm_33 6 rfl zi_i_1 (by decide) (fun _ => rfl) (fun x2 => ?_)
        refine zv_goto (tgt := 8) hX dX7_lowestTerm_36 rfl ?_
        exact zv_sub [4, 5, 6, 2, 1, 0] rfl (ih v0 v1 v2 v4 x1 x2 s)
def f_X7_lowestTerm (v0 : Int32) (v1 : Int32) (v2 : Int32) (s : zS) : Option (Int32 × zS) :=
  f_X7_lowestTerm_8 zFU v0 v1 v2 v0 v1 (0 : Int32) s
set_option maxRecDepth 20000 in
theorem c_X7_lowestTerm (Y : zG) (v0 : Int32) (v1 : Int32) (v2 : Int32) (s : zS) : zM Y yX7_lowestTerm cX7_lowestTerm 7 (some .int) (zR 0 0) [.int v0, .int v1, .int v2] s zrI (f_X7_lowestTerm v0 v1 v2 s) := by
  refine zm_start (by decide +kernel) (Nat.le_of_ble_eq_true rfl) ?_
  intro X hY hT hX
  subst hY
  have hX : zx_ok X cX7_lowestTerm RX7 7 := hX
  show zV X (zq X zrI) 7 0 [(0, .int v0), (1, .int v1), (2, .int v2)] [] s _
  unfold f_X7_lowestTerm
  refine zv_iload_n hX dX7_lowestTerm_0 0 rfl ?_
  refine zv_istore_n (lv' := [(3, .int v0), (0, .int v0), (1, .int v1), (2, .int v2)]) hX dX7_lowestTerm_1 (by decide) rfl ?_
  refine zv_iload_n hX dX7_lowestTerm_2 2 rfl ?_
  refine zv_istore (lv' := [(4, .int v1), (3, .int v0), (0, .int v0), (1, .int v1), (2, .int v2)]) hX dX7_lowestTerm_3 (by decide) rfl ?_
  refine zv_iconst (v := (0 : Int32)) hX dX7_lowestTerm_5 zi_i_0 ?_
  refine zv_istore (lv' := [(5, .int (0 : Int32)), (4, .int v1), (3, .int v0), (0, .int v0), (1, .int v1), (2, .int v2)]) hX dX7_lowestTerm_6 (by decide) rfl ?_
  exact zv_sub [3, 4, 5, 2, 1, 0] rfl (b_X7_lowestTerm_8 hX hT zFU v0 v1 v2 v0 v1 (0 : Int32) s)
theorem dX7_chance_0 : decode cX7_chance 0 = .ok (.aload_n 0, 1) := by decide +kernel
theorem dX7_chance_1 : decode cX7_chance 1 = .ok (.getfield 20, 3) := by decide +kernel
theorem dX7_chance_4 : decode cX7_chance 4 = .ok (.iload_n 1, 1) := by decide +kernel
theorem dX7_chance_5 : decode cX7_chance 5 = .ok (.invokevirtual 108, 3) := by decide +kernel
theorem dX7_chance_8 : decode cX7_chance 8 = .ok (.ifCond .eq 12, 3) := by decide +kernel
theorem dX7_chance_11 : decode cX7_chance 11 = .ok (.iload_n 2, 1) := by decide +kernel
theorem dX7_chance_12 : decode cX7_chance 12 = .ok (.ifCond .lt 8, 3) := by decide +kernel
theorem dX7_chance_15 : decode cX7_chance 15 = .ok (.iload_n 2, 1) := by decide +kernel
theorem dX7_chance_16 : decode cX7_chance 16 = .ok (.iconst 1, 1) := by decide +kernel
theorem dX7_chance_17 : decode cX7_chance 17 = .ok (.if_icmp .le 6, 3) := by decide +kernel
theorem dX7_chance_20 : decode cX7_chance 20 = .ok (.bipush (-2), 2) := by decide +kernel
theorem dX7_chance_22 : decode cX7_chance 22 = .ok (.ireturn, 1) := by decide +kernel
theorem dX7_chance_23 : decode cX7_chance 23 = .ok (.aload_n 0, 1) := by decide +kernel
theorem dX7_chance_24 : decode cX7_chance 24 = .ok (.getfield 45, 3) := by decide +kernel
theorem dX7_chance_27 : decode cX7_chance 27 = .ok (.invokevirtual 306, 3) := by decide +kernel
theorem dX7_chance_30 : decode cX7_chance 30 = .ok (.iconst 0, 1) := by decide +kernel
theorem dX7_chance_31 : decode cX7_chance 31 = .ok (.istore_n 3, 1) := by decide +kernel
theorem dX7_chance_32 : decode cX7_chance 32 = .ok (.iconst 1, 1) := by decide +kernel
theorem dX7_chance_33 : decode cX7_chance 33 = .ok (.istore 4, 2) := by decide +kernel
theorem dX7_chance_35 : decode cX7_chance 35 = .ok (.iconst 0, 1) := by decide +kernel
theorem dX7_chance_36 : decode cX7_chance 36 = .ok (.istore 5, 2) := by decide +kernel
theorem dX7_chance_38 : decode cX7_chance 38 = .ok (.iload 5, 2) := by decide +kernel
theorem dX7_chance_40 : decode cX7_chance 40 = .ok (.aload_n 0, 1) := by decide +kernel
theorem dX7_chance_41 : decode cX7_chance 41 = .ok (.getfield 20, 3) := by decide +kernel
theorem dX7_chance_44 : decode cX7_chance 44 = .ok (.getfield 215, 3) := by decide +kernel
theorem dX7_chance_47 : decode cX7_chance 47 = .ok (.if_icmp .ge 34, 3) := by decide +kernel
theorem dX7_chance_50 : decode cX7_chance 50 = .ok (.iload_n 3, 1) := by decide +kernel
theorem dX7_chance_51 : decode cX7_chance 51 = .ok (.aload_n 0, 1) := by decide +kernel
theorem dX7_chance_52 : decode cX7_chance 52 = .ok (.getfield 45, 3) := by decide +kernel
theorem dX7_chance_55 : decode cX7_chance 55 = .ok (.getfield 309, 3) := by decide +kernel
theorem dX7_chance_58 : decode cX7_chance 58 = .ok (.iload_n 1, 1) := by decide +kernel
theorem dX7_chance_59 : decode cX7_chance 59 = .ok (.bipush 7, 2) := by decide +kernel
theorem dX7_chance_61 : decode cX7_chance 61 = .ok (.imul, 1) := by decide +kernel
theorem dX7_chance_62 : decode cX7_chance 62 = .ok (.iload 5, 2) := by decide +kernel
theorem dX7_chance_64 : decode cX7_chance 64 = .ok (.iadd, 1) := by decide +kernel
theorem dX7_chance_65 : decode cX7_chance 65 = .ok (.iaload, 1) := by decide +kernel
theorem dX7_chance_66 : decode cX7_chance 66 = .ok (.iadd, 1) := by decide +kernel
theorem dX7_chance_67 : decode cX7_chance 67 = .ok (.istore_n 3, 1) := by decide +kernel
theorem dX7_chance_68 : decode cX7_chance 68 = .ok (.iload 4, 2) := by decide +kernel
theorem dX7_chance_70 : decode cX7_chance 70 = .ok (.bipush 10, 2) := by decide +kernel
theorem dX7_chance_72 : decode cX7_chance 72 = .ok (.imul, 1) := by decide +kernel
theorem dX7_chance_73 : decode cX7_chance 73 = .ok (.istore 4, 2) := by decide +kernel
theorem dX7_chance_75 : decode cX7_chance 75 = .ok (.iinc 5 1, 3) := by decide +kernel
theorem dX7_chance_78 : decode cX7_chance 78 = .ok (.goto (-40), 3) := by decide +kernel
theorem dX7_chance_81 : decode cX7_chance 81 = .ok (.iload_n 3, 1) := by decide +kernel
theorem dX7_chance_82 : decode cX7_chance 82 = .ok (.iload 4, 2) := by decide +kernel
theorem dX7_chance_84 : decode cX7_chance 84 = .ok (.iload_n 2, 1) := by decide +kernel
theorem dX7_chance_85 : decode cX7_chance 85 = .ok (.invokestatic 274, 3) := by decide +kernel
theorem dX7_chance_88 : decode cX7_chance 88 = .ok (.ireturn, 1) := by decide +kernel
def f_X7_chance_20  (s : zS) : Option (Int32 × zS) :=
  some ((-2 : Int32), s)
set_option maxRecDepth 20000 in
theorem b_X7_chance_20 {X : zX} (hX : zx_ok X cX7_chance RX7 6) (hT : zx_rt X (some .int) (zR 70 1740)) : ∀  (s : zS), zV X (zq X zrI) 6 20 [] [] s (f_X7_chance_20  s) := by
  intro  s
  unfold f_X7_chance_20
  refine zv_bipush (v := (-2 : Int32)) hX dX7_chance_20 zi_b_m2 ?_
  exact zv_ireti hX hT dX7_chance_22
def f_X7_chance_38 : Nat → Int32 → Int32 → Int32 → Int32 → Int32 → zS → Option (Int32 × zS)
  | 0, _, _, _, _, _, _ => none
  | n + 1, v1, v2, v3, v4, v5, s =>
    if (s.1 3 0) ≤ v5 then
    (zbd (f_X7_lowestTerm v3 v4 v2 s) fun r1 s2 =>
    some (r1, s2))
    else
    (zr_i s 66 ((v1 * (nI 7)) + v5)).bind fun x3 =>
    zb (v3 + x3) fun x4 =>
    zb (v4 * (nI 10)) fun x5 =>
    zb (v5 + (1 : Int32)) fun x6 =>
    f_X7_chance_38 n v1 v2 x4 x5 x6 s
set_option maxRecDepth 20000 in
theorem b_X7_chance_38 {X : zX} (hX : zx_ok X cX7_chance RX7 6) (hT : zx_rt X (some .int) (zR 70 1740)) : ∀ (n : Nat) (v1 : Int32) (v2 : Int32) (v3 : Int32) (v4 : Int32) (v5 : Int32) (s : zS), zV X (zq X zrI) 6 38 [(0, .ref (zx_ad X 0)), (1, .int v1), (2, .int v2), (3, .int v3), (4, .int v4), (5, .int v5)] [] s (f_X7_chance_38 n v1 v2 v3 v4 v5 s) := by
  intro n
  induction n with
  | zero => intro v1 v2 v3 v4 v5 s; exact zv_none
  | succ n ih =>
    intro v1 v2 v3 v4 v5 s
    rw [f_X7_chance_38]
    refine zv_iload hX dX7_chance_38 5 rfl ?_
    refine zv_aload_n hX dX7_chance_40 0 rfl ?_
    refine zv_geta hX wf_X7_20 wc_7 zd_0 zj_0_2 c9_7 zr_0_2 (by decide) dX7_chance_41 ?_
    refine zv_geti hX wf_X7_215 wc_5 zd_3 zj_3_0 c9_5 zr_3_0 dX7_chance_44 ?_
    refine zv_icmp_ge (tgt := 81) hX dX7_chance_47 rfl ?_ ?_
    · refine zv_iload_n hX dX7_chance_81 3 rfl ?_
      refine zv_iload hX dX7_chance_82 4 rfl ?_
      refine zv_iload_n hX dX7_chance_84 2 rfl ?_
      refine zv_cSI [.int v3, .int v4, .int v2] (rest := []) hX hT.2.2.2.2 (c_X7_lowestTerm (zx_Y X) v3 v4 v2 s) wv_X7_lowestTerm wm_X7_274 rfl (Nat.le_of_ble_eq_true rfl) (Nat.le_of_ble_eq_true rfl) rfl (Nat.le_of_ble_eq_true rfl) dX7_chance_85 (fun r1 s2 => ?_)
      exact zv_ireti hX hT dX7_chance_88
    · refine zv_iload_n hX dX7_chance_50 3 rfl ?_
      refine zv_aload_n hX dX7_chance_51 0 rfl ?_
      refine zv_geta hX wf_X7_45 wc_7 zd_0 zj_0_5 c9_7 zr_0_5 (by decide) dX7_chance_52 ?_
      refine zv_geta hX wf_X7_309 wc_0 zd_60 zj_60_11 c9_0 zr_60_11 (by decide) dX7_chance_55 ?_
      refine zv_iload_n hX dX7_chance_58 1 rfl ?_
      refine zv_bipush (v := (nI 7)) hX dX7_chance_59 zi_b_7 ?_
      refine zv_imul hX dX7_chance_61 ?_
      refine zv_iload hX dX7_chance_62 5 rfl ?_
      refine zv_iadd hX dX7_chance_64 ?_
      refine zv_iald hX dX7_chance_65 (fun x3 => ?_)
      refine zv_iadd hX dX7_chance_66 ?_
      refine zv_istB_n (lw := fun x4 => [(3, .int x4), (0, .ref (zx_ad X 0)), (1, .int v1), (2, .int v2), (4, .int v4), (5, .int v5)]) hX dX7_chance_67 (by decide) (fun _ => rfl) (fun x4 => ?_)
      refine zv_iload hX dX7_chance_68 4 rfl ?_
      refine zv_bipush (v := (nI 10)) hX dX7_chance_70 zi_b_10 ?_
      refine zv_imul hX dX7_chance_72 ?_
      refine zv_istB (lw := fun x5 => [(4, .int x5), (3, .int x4), (0, .ref (zx_ad X 0)), (1, .int v1), (2, .int v2), (5, .int v5)]) hX dX7_chance_73 (by decide) (fun _ => rfl) (fun x5 => ?_)
      refine zv_iincB (lw := fun x6 => [(5, .int x6), (4, .int x5), (3, .int x4), (0, .ref (zx_ad X 0)), (1, .int v1), (2, .int v2)]) hX dX7_chance_75 5 rfl zi_i_1 (by decide) (fun _ => rfl) (fun x6 => ?_)
      refine zv_goto (tgt := 38) hX dX7_chance_78 rfl ?_
      exact zv_sub [3, 4, 5, 2, 1, 0] rfl (ih v1 v2 x4 x5 x6 s)
def f_X7_chance (v1 : Int32) (v2 : Int32) (s : zS) : Option (Int32 × zS) :=
  zbd (f_X5_has_3 v1 s) fun r7 s8 =>
  if r7 = 0 then
  (f_X7_chance_20 s8)
  else
  if v2 < 0 then
  (f_X7_chance_20 s8)
  else
  if v2 ≤ (1 : Int32) then
  (zbd (f_X0_learnChances s8) fun _ s9 =>
  f_X7_chance_38 zFU v1 v2 (0 : Int32) (1 : Int32) (0 : Int32) s9)
  else
  f_X7_chance_20 s8
set_option maxRecDepth 20000 in
theorem c_X7_chance (Y : zG) (v1 : Int32) (v2 : Int32) (s : zS) : zM Y yX7_chance cX7_chance 6 (some .int) (zR 70 1740) [.ref (zy_a Y 0), .int v1, .int v2] s zrI (f_X7_chance v1 v2 s) := by
  refine zm_start (by decide +kernel) (Nat.le_of_ble_eq_true rfl) ?_
  intro X hY hT hX
  subst hY
  have hX : zx_ok X cX7_chance RX7 6 := hX
  show zV X (zq X zrI) 6 0 [(0, .ref (zx_ad X 0)), (1, .int v1), (2, .int v2)] [] s _
  unfold f_X7_chance
  refine zv_aload_n hX dX7_chance_0 0 rfl ?_
  refine zv_geta hX wf_X7_20 wc_7 zd_0 zj_0_2 c9_7 zr_0_2 (by decide) dX7_chance_1 ?_
  refine zv_iload_n hX dX7_chance_4 1 rfl ?_
  refine zv_cVI [.int v1] (rest := []) hX hT.2.2.2.2 (c_X5_has_3 (zx_Y X) v1 s) wv_X5_has c9_5 zd_3 wm_X7_108 rfl (Nat.le_of_ble_eq_true rfl) (Nat.le_of_ble_eq_true rfl) rfl (Nat.le_of_ble_eq_true rfl) dX7_chance_5 (fun r7 s8 => ?_)
  refine zv_if_eq (tgt := 20) hX dX7_chance_8 rfl ?_ ?_
  · exact zv_sub [] rfl (b_X7_chance_20 hX hT  s8)
  · refine zv_iload_n hX dX7_chance_11 2 rfl ?_
    refine zv_if_lt (tgt := 20) hX dX7_chance_12 rfl ?_ ?_
    · exact zv_sub [] rfl (b_X7_chance_20 hX hT  s8)
    · refine zv_iload_n hX dX7_chance_15 2 rfl ?_
      refine zv_iconst (v := (1 : Int32)) hX dX7_chance_16 zi_i_1 ?_
      refine zv_icmp_le (tgt := 23) hX dX7_chance_17 rfl ?_ ?_
      · refine zv_aload_n hX dX7_chance_23 0 rfl ?_
        refine zv_geta hX wf_X7_45 wc_7 zd_0 zj_0_5 c9_7 zr_0_5 (by decide) dX7_chance_24 ?_
        refine zv_cVV [] (rest := []) hX hT.2.2.2.2 (c_X0_learnChances (zx_Y X) s8) wv_X0_learnChances c9_0 zd_60 wm_X7_306 rfl (Nat.le_of_ble_eq_true rfl) (Nat.le_of_ble_eq_true rfl) rfl (Nat.le_of_ble_eq_true rfl) dX7_chance_27 (fun _ s9 => ?_)
        refine zv_iconst (v := (0 : Int32)) hX dX7_chance_30 zi_i_0 ?_
        refine zv_istore_n (lv' := [(3, .int (0 : Int32)), (0, .ref (zx_ad X 0)), (1, .int v1), (2, .int v2)]) hX dX7_chance_31 (by decide) rfl ?_
        refine zv_iconst (v := (1 : Int32)) hX dX7_chance_32 zi_i_1 ?_
        refine zv_istore (lv' := [(4, .int (1 : Int32)), (3, .int (0 : Int32)), (0, .ref (zx_ad X 0)), (1, .int v1), (2, .int v2)]) hX dX7_chance_33 (by decide) rfl ?_
        refine zv_iconst (v := (0 : Int32)) hX dX7_chance_35 zi_i_0 ?_
        refine zv_istore (lv' := [(5, .int (0 : Int32)), (4, .int (1 : Int32)), (3, .int (0 : Int32)), (0, .ref (zx_ad X 0)), (1, .int v1), (2, .int v2)]) hX dX7_chance_36 (by decide) rfl ?_
        exact zv_sub [3, 4, 5, 2, 1, 0] rfl (b_X7_chance_38 hX hT zFU v1 v2 (0 : Int32) (1 : Int32) (0 : Int32) s9)
      · exact zv_sub [] rfl (b_X7_chance_20 hX hT  s8)
theorem dX7_change_0 : decode cX7_change 0 = .ok (.aload_n 0, 1) := by decide +kernel
theorem dX7_change_1 : decode cX7_change 1 = .ok (.getfield 20, 3) := by decide +kernel
theorem dX7_change_4 : decode cX7_change 4 = .ok (.iload_n 1, 1) := by decide +kernel
theorem dX7_change_5 : decode cX7_change 5 = .ok (.iload_n 2, 1) := by decide +kernel
theorem dX7_change_6 : decode cX7_change 6 = .ok (.invokevirtual 137, 3) := by decide +kernel
theorem dX7_change_9 : decode cX7_change 9 = .ok (.ifCond .eq 12, 3) := by decide +kernel
theorem dX7_change_12 : decode cX7_change 12 = .ok (.iload_n 3, 1) := by decide +kernel
theorem dX7_change_13 : decode cX7_change 13 = .ok (.ifCond .lt 8, 3) := by decide +kernel
theorem dX7_change_16 : decode cX7_change 16 = .ok (.iload_n 3, 1) := by decide +kernel
theorem dX7_change_17 : decode cX7_change 17 = .ok (.iconst 1, 1) := by decide +kernel
theorem dX7_change_18 : decode cX7_change 18 = .ok (.if_icmp .le 6, 3) := by decide +kernel
theorem dX7_change_21 : decode cX7_change 21 = .ok (.bipush (-2), 2) := by decide +kernel
theorem dX7_change_23 : decode cX7_change 23 = .ok (.ireturn, 1) := by decide +kernel
theorem dX7_change_24 : decode cX7_change 24 = .ok (.aload_n 0, 1) := by decide +kernel
theorem dX7_change_25 : decode cX7_change 25 = .ok (.getfield 36, 3) := by decide +kernel
theorem dX7_change_28 : decode cX7_change 28 = .ok (.aload_n 0, 1) := by decide +kernel
theorem dX7_change_29 : decode cX7_change 29 = .ok (.getfield 20, 3) := by decide +kernel
theorem dX7_change_32 : decode cX7_change 32 = .ok (.getfield 112, 3) := by decide +kernel
theorem dX7_change_35 : decode cX7_change 35 = .ok (.iload_n 1, 1) := by decide +kernel
theorem dX7_change_36 : decode cX7_change 36 = .ok (.iaload, 1) := by decide +kernel
theorem dX7_change_37 : decode cX7_change 37 = .ok (.aload_n 0, 1) := by decide +kernel
theorem dX7_change_38 : decode cX7_change 38 = .ok (.getfield 20, 3) := by decide +kernel
theorem dX7_change_41 : decode cX7_change 41 = .ok (.getfield 112, 3) := by decide +kernel
theorem dX7_change_44 : decode cX7_change 44 = .ok (.iload_n 2, 1) := by decide +kernel
theorem dX7_change_45 : decode cX7_change 45 = .ok (.iaload, 1) := by decide +kernel
theorem dX7_change_46 : decode cX7_change 46 = .ok (.invokevirtual 253, 3) := by decide +kernel
theorem dX7_change_49 : decode cX7_change 49 = .ok (.istore 4, 2) := by decide +kernel
theorem dX7_change_51 : decode cX7_change 51 = .ok (.iload 4, 2) := by decide +kernel
theorem dX7_change_53 : decode cX7_change 53 = .ok (.ifCond .ge 5, 3) := by decide +kernel
theorem dX7_change_56 : decode cX7_change 56 = .ok (.iconst (-1), 1) := by decide +kernel
theorem dX7_change_57 : decode cX7_change 57 = .ok (.ireturn, 1) := by decide +kernel
theorem dX7_change_58 : decode cX7_change 58 = .ok (.iload_n 3, 1) := by decide +kernel
theorem dX7_change_59 : decode cX7_change 59 = .ok (.iconst 1, 1) := by decide +kernel
theorem dX7_change_60 : decode cX7_change 60 = .ok (.if_icmp .ne 8, 3) := by decide +kernel
theorem dX7_change_63 : decode cX7_change 63 = .ok (.iload 4, 2) := by decide +kernel
theorem dX7_change_65 : decode cX7_change 65 = .ok (.goto 18, 3) := by decide +kernel
theorem dX7_change_68 : decode cX7_change 68 = .ok (.iload 4, 2) := by decide +kernel
theorem dX7_change_70 : decode cX7_change 70 = .ok (.aload_n 0, 1) := by decide +kernel
theorem dX7_change_71 : decode cX7_change 71 = .ok (.getfield 20, 3) := by decide +kernel
theorem dX7_change_74 : decode cX7_change 74 = .ok (.getfield 112, 3) := by decide +kernel
theorem dX7_change_77 : decode cX7_change 77 = .ok (.iload_n 1, 1) := by decide +kernel
theorem dX7_change_78 : decode cX7_change 78 = .ok (.iaload, 1) := by decide +kernel
theorem dX7_change_79 : decode cX7_change 79 = .ok (.ixor, 1) := by decide +kernel
theorem dX7_change_80 : decode cX7_change 80 = .ok (.invokestatic 116, 3) := by decide +kernel
theorem dX7_change_83 : decode cX7_change 83 = .ok (.ireturn, 1) := by decide +kernel
def f_X7_change_21  (s : zS) : Option (Int32 × zS) :=
  some ((-2 : Int32), s)
set_option maxRecDepth 20000 in
theorem b_X7_change_21 {X : zX} (hX : zx_ok X cX7_change RX7 5) (hT : zx_rt X (some .int) (zR 3 79)) : ∀  (s : zS), zV X (zq X zrI) 5 21 [] [] s (f_X7_change_21  s) := by
  intro  s
  unfold f_X7_change_21
  refine zv_bipush (v := (-2 : Int32)) hX dX7_change_21 zi_b_m2 ?_
  exact zv_ireti hX hT dX7_change_23
def f_X7_change_83 (w0 : Int32) (s : zS) : Option (Int32 × zS) :=
  some (w0, s)
set_option maxRecDepth 20000 in
theorem b_X7_change_83 {X : zX} (hX : zx_ok X cX7_change RX7 5) (hT : zx_rt X (some .int) (zR 3 79)) : ∀ (w0 : Int32) (s : zS), zV X (zq X zrI) 5 83 [] [.int w0] s (f_X7_change_83 w0 s) := by
  intro w0 s
  unfold f_X7_change_83
  exact zv_ireti hX hT dX7_change_83
def f_X7_change (v1 : Int32) (v2 : Int32) (v3 : Int32) (s : zS) : Option (Int32 × zS) :=
  zbd (f_X5_areTwo_3 v1 v2 s) fun r1 s2 =>
  if r1 = 0 then
  (f_X7_change_21 s2)
  else
  if v3 < 0 then
  (f_X7_change_21 s2)
  else
  if v3 ≤ (1 : Int32) then
  ((zr_i s2 4 v1).bind fun x3 =>
  (zr_i s2 4 v2).bind fun x4 =>
  zbd (f_X4_nearestFitting x3 x4 s2) fun r5 s6 =>
  if 0 ≤ r5 then
  (if ¬ v3 = (1 : Int32) then
  ((zr_i s6 4 v1).bind fun x7 =>
  zbd (f_J6_bitCount_0f7a4 (r5 ^^^ x7) s6) fun r8 s9 =>
  f_X7_change_83 r8 s9)
  else
  f_X7_change_83 r5 s6)
  else
  some ((-1 : Int32), s6))
  else
  f_X7_change_21 s2
set_option maxRecDepth 20000 in
theorem c_X7_change (Y : zG) (v1 : Int32) (v2 : Int32) (v3 : Int32) (s : zS) : zM Y yX7_change cX7_change 5 (some .int) (zR 3 79) [.ref (zy_a Y 0), .int v1, .int v2, .int v3] s zrI (f_X7_change v1 v2 v3 s) := by
  refine zm_start (by decide +kernel) (Nat.le_of_ble_eq_true rfl) ?_
  intro X hY hT hX
  subst hY
  have hX : zx_ok X cX7_change RX7 5 := hX
  show zV X (zq X zrI) 5 0 [(0, .ref (zx_ad X 0)), (1, .int v1), (2, .int v2), (3, .int v3)] [] s _
  unfold f_X7_change
  refine zv_aload_n hX dX7_change_0 0 rfl ?_
  refine zv_geta hX wf_X7_20 wc_7 zd_0 zj_0_2 c9_7 zr_0_2 (by decide) dX7_change_1 ?_
  refine zv_iload_n hX dX7_change_4 1 rfl ?_
  refine zv_iload_n hX dX7_change_5 2 rfl ?_
  refine zv_cVI [.int v1, .int v2] (rest := []) hX hT.2.2.2.2 (c_X5_areTwo_3 (zx_Y X) v1 v2 s) wv_X5_areTwo c9_5 zd_3 wm_X7_137 rfl (Nat.le_of_ble_eq_true rfl) (Nat.le_of_ble_eq_true rfl) rfl (Nat.le_of_ble_eq_true rfl) dX7_change_6 (fun r1 s2 => ?_)
  refine zv_if_eq (tgt := 21) hX dX7_change_9 rfl ?_ ?_
  · exact zv_sub [] rfl (b_X7_change_21 hX hT  s2)
  · refine zv_iload_n hX dX7_change_12 3 rfl ?_
    refine zv_if_lt (tgt := 21) hX dX7_change_13 rfl ?_ ?_
    · exact zv_sub [] rfl (b_X7_change_21 hX hT  s2)
    · refine zv_iload_n hX dX7_change_16 3 rfl ?_
      refine zv_iconst (v := (1 : Int32)) hX dX7_change_17 zi_i_1 ?_
      refine zv_icmp_le (tgt := 24) hX dX7_change_18 rfl ?_ ?_
      · refine zv_aload_n hX dX7_change_24 0 rfl ?_
        refine zv_geta hX wf_X7_36 wc_7 zd_0 zj_0_4 c9_7 zr_0_4 (by decide) dX7_change_25 ?_
        refine zv_aload_n hX dX7_change_28 0 rfl ?_
        refine zv_geta hX wf_X7_20 wc_7 zd_0 zj_0_2 c9_7 zr_0_2 (by decide) dX7_change_29 ?_
        refine zv_geta hX wf_X7_112 wc_5 zd_3 zj_3_2 c9_5 zr_3_2 (by decide) dX7_change_32 ?_
        refine zv_iload_n hX dX7_change_35 1 rfl ?_
        refine zv_iald hX dX7_change_36 (fun x3 => ?_)
        refine zv_aload_n hX dX7_change_37 0 rfl ?_
        refine zv_geta hX wf_X7_20 wc_7 zd_0 zj_0_2 c9_7 zr_0_2 (by decide) dX7_change_38 ?_
        refine zv_geta hX wf_X7_112 wc_5 zd_3 zj_3_2 c9_5 zr_3_2 (by decide) dX7_change_41 ?_
        refine zv_iload_n hX dX7_change_44 2 rfl ?_
        refine zv_iald hX dX7_change_45 (fun x4 => ?_)
        refine zv_cVI [.int x3, .int x4] (rest := []) hX hT.2.2.2.2 (c_X4_nearestFitting (zx_Y X) x3 x4 s2) wv_X4_nearestFitting c9_4 zd_42 wm_X7_253 rfl (Nat.le_of_ble_eq_true rfl) (Nat.le_of_ble_eq_true rfl) rfl (Nat.le_of_ble_eq_true rfl) dX7_change_46 (fun r5 s6 => ?_)
        refine zv_istore (lv' := [(4, .int r5), (0, .ref (zx_ad X 0)), (1, .int v1), (2, .int v2), (3, .int v3)]) hX dX7_change_49 (by decide) rfl ?_
        refine zv_iload hX dX7_change_51 0 rfl ?_
        refine zv_if_ge (tgt := 58) hX dX7_change_53 rfl ?_ ?_
        · refine zv_iload_n hX dX7_change_58 4 rfl ?_
          refine zv_iconst (v := (1 : Int32)) hX dX7_change_59 zi_i_1 ?_
          refine zv_icmp_ne (tgt := 68) hX dX7_change_60 rfl ?_ ?_
          · refine zv_iload hX dX7_change_68 0 rfl ?_
            refine zv_aload_n hX dX7_change_70 1 rfl ?_
            refine zv_geta hX wf_X7_20 wc_7 zd_0 zj_0_2 c9_7 zr_0_2 (by decide) dX7_change_71 ?_
            refine zv_geta hX wf_X7_112 wc_5 zd_3 zj_3_2 c9_5 zr_3_2 (by decide) dX7_change_74 ?_
            refine zv_iload_n hX dX7_change_77 2 rfl ?_
            refine zv_iald hX dX7_change_78 (fun x7 => ?_)
            refine zv_ixor hX dX7_change_79 ?_
            refine zv_cSI [.int (r5 ^^^ x7)] (rest := []) hX hT.2.2.2.2 (c_J6_bitCount_0f7a4 (zx_Y X) (r5 ^^^ x7) s6) wv_J6_bitCount_0f7a4 wm_X7_116 rfl (Nat.le_of_ble_eq_true rfl) (Nat.le_of_ble_eq_true rfl) rfl (Nat.le_of_ble_eq_true rfl) dX7_change_80 (fun r8 s9 => ?_)
            exact zv_sub [] rfl (b_X7_change_83 hX hT r8 s9)
          · refine zv_iload hX dX7_change_63 0 rfl ?_
            refine zv_goto (tgt := 83) hX dX7_change_65 rfl ?_
            exact zv_sub [] rfl (b_X7_change_83 hX hT r5 s6)
        · refine zv_iconst (v := (-1 : Int32)) hX dX7_change_56 zi_i_m1 ?_
          exact zv_ireti hX hT dX7_change_57
      · exact zv_sub [] rfl (b_X7_change_21 hX hT  s2)
