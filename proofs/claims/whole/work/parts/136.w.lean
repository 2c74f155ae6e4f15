theorem dX8_codes_0 : decode cX8_codes 0 = .ok (.aload_n 0, 1) := by decide +kernel
theorem dX8_codes_1 : decode cX8_codes 1 = .ok (.getfield 138, 3) := by decide +kernel
theorem dX8_codes_4 : decode cX8_codes 4 = .ok (.ifCond .eq 4, 3) := by decide +kernel
theorem dX8_codes_7 : decode cX8_codes 7 = .ok (.return_, 1) := by decide +kernel
theorem dX8_codes_8 : decode cX8_codes 8 = .ok (.aload_n 0, 1) := by decide +kernel
theorem dX8_codes_9 : decode cX8_codes 9 = .ok (.getfield 24, 3) := by decide +kernel
theorem dX8_codes_12 : decode cX8_codes 12 = .ok (.sipush 255, 3) := by decide +kernel
theorem dX8_codes_15 : decode cX8_codes 15 = .ok (.aload_n 0, 1) := by decide +kernel
theorem dX8_codes_16 : decode cX8_codes 16 = .ok (.getfield 24, 3) := by decide +kernel
theorem dX8_codes_19 : decode cX8_codes 19 = .ok (.sipush 254, 3) := by decide +kernel
theorem dX8_codes_22 : decode cX8_codes 22 = .ok (.iaload, 1) := by decide +kernel
theorem dX8_codes_23 : decode cX8_codes 23 = .ok (.iadd, 1) := by decide +kernel
theorem dX8_codes_24 : decode cX8_codes 24 = .ok (.iload_n 1, 1) := by decide +kernel
theorem dX8_codes_25 : decode cX8_codes 25 = .ok (.iastore, 1) := by decide +kernel
theorem dX8_codes_26 : decode cX8_codes 26 = .ok (.aload_n 0, 1) := by decide +kernel
theorem dX8_codes_27 : decode cX8_codes 27 = .ok (.getfield 24, 3) := by decide +kernel
theorem dX8_codes_30 : decode cX8_codes 30 = .ok (.sipush 254, 3) := by decide +kernel
theorem dX8_codes_33 : decode cX8_codes 33 = .ok (.dup2, 1) := by decide +kernel
theorem dX8_codes_34 : decode cX8_codes 34 = .ok (.iaload, 1) := by decide +kernel
theorem dX8_codes_35 : decode cX8_codes 35 = .ok (.iconst 1, 1) := by decide +kernel
theorem dX8_codes_36 : decode cX8_codes 36 = .ok (.iadd, 1) := by decide +kernel
theorem dX8_codes_37 : decode cX8_codes 37 = .ok (.iastore, 1) := by decide +kernel
theorem dX8_codes_38 : decode cX8_codes 38 = .ok (.return_, 1) := by decide +kernel
def f_X8_codes (v1 : Int32) (s : zS) : Option (Unit × zS) :=
  if (s.1 76 11) = 0 then
  ((zr_i s 80 (nI 254)).bind fun x1 =>
  (zw_i s 80 ((nI 255) + x1) v1).bind fun s2 =>
  (zr_i s2 80 (nI 254)).bind fun x3 =>
  (zw_i s2 80 (nI 254) (x3 + (1 : Int32))).bind fun s4 =>
  some ((), s4))
  else
  some ((), s)
set_option maxRecDepth 20000 in
theorem c_X8_codes (Y : zG) (v1 : Int32) (s : zS) : zM Y yX8_codes cX8_codes 2 none (zR 0 0) [.ref (zy_a Y 76), .int v1] s zrV (f_X8_codes v1 s) := by
  refine zm_start (by decide +kernel) (Nat.le_of_ble_eq_true rfl) ?_
  intro X hY hT hX
  subst hY
  have hX : zx_ok X cX8_codes RX8 2 := hX
  show zV X (zq X zrV) 2 0 [(0, .ref (zx_ad X 76)), (1, .int v1)] [] s _
  unfold f_X8_codes
  refine zv_aload_n hX dX8_codes_0 0 rfl ?_
  refine zv_geti hX wf_X8_138 wc_8 zd_76 zj_76_11 c9_8 zr_76_11 dX8_codes_1 ?_
  refine zv_if_eq (tgt := 8) hX dX8_codes_4 rfl ?_ ?_
  · refine zv_aload_n hX dX8_codes_8 0 rfl ?_
    refine zv_geta hX wf_X8_24 wc_8 zd_76 zj_76_4 c9_8 zr_76_4 (by decide) dX8_codes_9 ?_
    refine zv_sipush (v := (nI 255)) hX dX8_codes_12 zi_s_255 ?_
    refine zv_aload_n hX dX8_codes_15 0 rfl ?_
    refine zv_geta hX wf_X8_24 wc_8 zd_76 zj_76_4 c9_8 zr_76_4 (by decide) dX8_codes_16 ?_
    refine zv_sipush (v := (nI 254)) hX dX8_codes_19 zi_s_254 ?_
    refine zv_iald hX dX8_codes_22 (fun x1 => ?_)
    refine zv_iadd hX dX8_codes_23 ?_
    refine zv_iload_n hX dX8_codes_24 1 rfl ?_
    refine zv_iast hX dX8_codes_25 (fun s2 => ?_)
    refine zv_aload_n hX dX8_codes_26 0 rfl ?_
    refine zv_geta hX wf_X8_24 wc_8 zd_76 zj_76_4 c9_8 zr_76_4 (by decide) dX8_codes_27 ?_
    refine zv_sipush (v := (nI 254)) hX dX8_codes_30 zi_s_254 ?_
    refine zv_dup2 hX dX8_codes_33 rfl rfl ?_
    refine zv_iald hX dX8_codes_34 (fun x3 => ?_)
    refine zv_iconst (v := (1 : Int32)) hX dX8_codes_35 zi_i_1 ?_
    refine zv_iadd hX dX8_codes_36 ?_
    refine zv_iast hX dX8_codes_37 (fun s4 => ?_)
    exact zv_vret hX hT dX8_codes_38
  · exact zv_vret hX hT dX8_codes_7
theorem dX8_engagedSet_0 : decode cX8_engagedSet 0 = .ok (.iconst 0, 1) := by decide +kernel
theorem dX8_engagedSet_1 : decode cX8_engagedSet 1 = .ok (.istore_n 1, 1) := by decide +kernel
theorem dX8_engagedSet_2 : decode cX8_engagedSet 2 = .ok (.iconst 0, 1) := by decide +kernel
theorem dX8_engagedSet_3 : decode cX8_engagedSet 3 = .ok (.istore_n 2, 1) := by decide +kernel
theorem dX8_engagedSet_4 : decode cX8_engagedSet 4 = .ok (.iload_n 2, 1) := by decide +kernel
theorem dX8_engagedSet_5 : decode cX8_engagedSet 5 = .ok (.aload_n 0, 1) := by decide +kernel
theorem dX8_engagedSet_6 : decode cX8_engagedSet 6 = .ok (.getfield 13, 3) := by decide +kernel
theorem dX8_engagedSet_9 : decode cX8_engagedSet 9 = .ok (.iconst 1, 1) := by decide +kernel
theorem dX8_engagedSet_10 : decode cX8_engagedSet 10 = .ok (.iaload, 1) := by decide +kernel
theorem dX8_engagedSet_11 : decode cX8_engagedSet 11 = .ok (.if_icmp .ge 32, 3) := by decide +kernel
theorem dX8_engagedSet_14 : decode cX8_engagedSet 14 = .ok (.iload_n 1, 1) := by decide +kernel
theorem dX8_engagedSet_15 : decode cX8_engagedSet 15 = .ok (.aload_n 0, 1) := by decide +kernel
theorem dX8_engagedSet_16 : decode cX8_engagedSet 16 = .ok (.getfield 13, 3) := by decide +kernel
theorem dX8_engagedSet_19 : decode cX8_engagedSet 19 = .ok (.bipush 22, 2) := by decide +kernel
theorem dX8_engagedSet_21 : decode cX8_engagedSet 21 = .ok (.iload_n 2, 1) := by decide +kernel
theorem dX8_engagedSet_22 : decode cX8_engagedSet 22 = .ok (.iadd, 1) := by decide +kernel
theorem dX8_engagedSet_23 : decode cX8_engagedSet 23 = .ok (.iaload, 1) := by decide +kernel
theorem dX8_engagedSet_24 : decode cX8_engagedSet 24 = .ok (.iconst (-1), 1) := by decide +kernel
theorem dX8_engagedSet_25 : decode cX8_engagedSet 25 = .ok (.if_icmp .ne 7, 3) := by decide +kernel
theorem dX8_engagedSet_28 : decode cX8_engagedSet 28 = .ok (.iconst 0, 1) := by decide +kernel
theorem dX8_engagedSet_29 : decode cX8_engagedSet 29 = .ok (.goto 6, 3) := by decide +kernel
theorem dX8_engagedSet_32 : decode cX8_engagedSet 32 = .ok (.iconst 1, 1) := by decide +kernel
theorem dX8_engagedSet_33 : decode cX8_engagedSet 33 = .ok (.iload_n 2, 1) := by decide +kernel
theorem dX8_engagedSet_34 : decode cX8_engagedSet 34 = .ok (.ishl, 1) := by decide +kernel
theorem dX8_engagedSet_35 : decode cX8_engagedSet 35 = .ok (.ior, 1) := by decide +kernel
theorem dX8_engagedSet_36 : decode cX8_engagedSet 36 = .ok (.istore_n 1, 1) := by decide +kernel
theorem dX8_engagedSet_37 : decode cX8_engagedSet 37 = .ok (.iinc 2 1, 3) := by decide +kernel
theorem dX8_engagedSet_40 : decode cX8_engagedSet 40 = .ok (.goto (-36), 3) := by decide +kernel
theorem dX8_engagedSet_43 : decode cX8_engagedSet 43 = .ok (.iload_n 1, 1) := by decide +kernel
theorem dX8_engagedSet_44 : decode cX8_engagedSet 44 = .ok (.ireturn, 1) := by decide +kernel
def f_X8_engagedSet_35 (kb_4 : Int32 → Int32 → zS → Option (Int32 × zS)) (v2 : Int32) (w0 : Int32) (w1 : Int32) (s : zS) : Option (Int32 × zS) :=
  zb (w1 ||| w0) fun x1 =>
  zb (v2 + (1 : Int32)) fun x2 =>
  kb_4 x1 x2 s
set_option maxRecDepth 20000 in
theorem b_X8_engagedSet_35 {X : zX} {kb_4 : Int32 → Int32 → zS → Option (Int32 × zS)} (hX : zx_ok X cX8_engagedSet RX8 3) (hT : zx_rt X (some .int) (zR 0 0)) (hk_4 : ∀ (v1 : Int32) (v2 : Int32) (s : zS), zV X (zq X zrI) 3 4 [(0, .ref (zx_ad X 76)), (1, .int v1), (2, .int v2)] [] s (kb_4 v1 v2 s)) : ∀ (v2 : Int32) (w0 : Int32) (w1 : Int32) (s : zS), zV X (zq X zrI) 3 35 [(0, .ref (zx_ad X 76)), (2, .int v2)] [.int w0, .int w1] s (f_X8_engagedSet_35 kb_4 v2 w0 w1 s) := by
  intro v2 w0 w1 s
  unfold f_X8_engagedSet_35
  refine zv_ior hX dX8_engagedSet_35 ?_
  refine zv_istB_n (lw := fun x1 => [(1, .int x1), (0, .ref (zx_ad X 76)), (2, .int v2)]) hX dX8_engagedSet_36 (by decide) (fun _ => rfl) (fun x1 => ?_)
  refine zv_iincB (lw := fun x2 => [(2, .int x2), (1, .int x1), (0, .ref (zx_ad X 76))]) hX dX8_engagedSet_37 2 rfl zi_i_1 (by decide) (fun _ => rfl) (fun x2 => ?_)
  refine zv_goto (tgt := 4) hX dX8_engagedSet_40 rfl ?_
  exact zv_sub [2, 1, 0] rfl (hk_4 x1 x2 s)
def f_X8_engagedSet_4 : Nat → Int32 → Int32 → zS → Option (Int32 × zS)
  | 0, _, _, _ => none
  | n + 1, v1, v2, s =>
    (zr_i s 77 (1 : Int32)).bind fun x3 =>
    if x3 ≤ v2 then
    (some (v1, s))
    else
    (zr_i s 77 ((nI 22) + v2)).bind fun x4 =>
    if ¬ x4 = (-1 : Int32) then
    (f_X8_engagedSet_35 (f_X8_engagedSet_4 n) v2 (zo_shl (1 : Int32) v2) v1 s)
    else
    f_X8_engagedSet_35 (f_X8_engagedSet_4 n) v2 (0 : Int32) v1 s
set_option maxRecDepth 20000 in
theorem b_X8_engagedSet_4 {X : zX} (hX : zx_ok X cX8_engagedSet RX8 3) (hT : zx_rt X (some .int) (zR 0 0)) : ∀ (n : Nat) (v1 : Int32) (v2 : Int32) (s : zS), zV X (zq X zrI) 3 4 [(0, .ref (zx_ad X 76)), (1, .int v1), (2, .int v2)] [] s (f_X8_engagedSet_4 n v1 v2 s) := by
  intro n
  induction n with
  | zero => intro v1 v2 s; exact zv_none
  | succ n ih =>
    intro v1 v2 s
    rw [f_X8_engagedSet_4]
    refine zv_iload_n hX dX8_engagedSet_4 2 rfl ?_
    refine zv_aload_n hX dX8_engagedSet_5 0 rfl ?_
    refine zv_geta hX wf_X8_13 wc_8 zd_76 zj_76_1 c9_8 zr_76_1 (by decide) dX8_engagedSet_6 ?_
    refine zv_iconst (v := (1 : Int32)) hX dX8_engagedSet_9 zi_i_1 ?_
    refine zv_iald hX dX8_engagedSet_10 (fun x3 => ?_)
    refine zv_icmp_ge (tgt := 43) hX dX8_engagedSet_11 rfl ?_ ?_
    · refine zv_iload_n hX dX8_engagedSet_43 1 rfl ?_
      exact zv_ireti hX hT dX8_engagedSet_44
    · refine zv_iload_n hX dX8_engagedSet_14 1 rfl ?_
      refine zv_aload_n hX dX8_engagedSet_15 0 rfl ?_
      refine zv_geta hX wf_X8_13 wc_8 zd_76 zj_76_1 c9_8 zr_76_1 (by decide) dX8_engagedSet_16 ?_
      refine zv_bipush (v := (nI 22)) hX dX8_engagedSet_19 zi_b_22 ?_
      refine zv_iload_n hX dX8_engagedSet_21 2 rfl ?_
      refine zv_iadd hX dX8_engagedSet_22 ?_
      refine zv_iald hX dX8_engagedSet_23 (fun x4 => ?_)
      refine zv_iconst (v := (-1 : Int32)) hX dX8_engagedSet_24 zi_i_m1 ?_
      refine zv_icmp_ne (tgt := 32) hX dX8_engagedSet_25 rfl ?_ ?_
      · refine zv_iconst (v := (1 : Int32)) hX dX8_engagedSet_32 zi_i_1 ?_
        refine zv_iload_n hX dX8_engagedSet_33 2 rfl ?_
        refine zv_ishl hX dX8_engagedSet_34 ?_
        exact zv_sub [0, 2] rfl (b_X8_engagedSet_35 hX hT ih v2 (zo_shl (1 : Int32) v2) v1 s)
      · refine zv_iconst (v := (0 : Int32)) hX dX8_engagedSet_28 zi_i_0 ?_
        refine zv_goto (tgt := 35) hX dX8_engagedSet_29 rfl ?_
        exact zv_sub [0, 2] rfl (b_X8_engagedSet_35 hX hT ih v2 (0 : Int32) v1 s)
def f_X8_engagedSet  (s : zS) : Option (Int32 × zS) :=
  f_X8_engagedSet_4 zFU (0 : Int32) (0 : Int32) s
set_option maxRecDepth 20000 in
theorem c_X8_engagedSet (Y : zG)  (s : zS) : zM Y yX8_engagedSet cX8_engagedSet 3 (some .int) (zR 0 0) [.ref (zy_a Y 76)] s zrI (f_X8_engagedSet  s) := by
  refine zm_start (by decide +kernel) (Nat.le_of_ble_eq_true rfl) ?_
  intro X hY hT hX
  subst hY
  have hX : zx_ok X cX8_engagedSet RX8 3 := hX
  show zV X (zq X zrI) 3 0 [(0, .ref (zx_ad X 76))] [] s _
  unfold f_X8_engagedSet
  refine zv_iconst (v := (0 : Int32)) hX dX8_engagedSet_0 zi_i_0 ?_
  refine zv_istore_n (lv' := [(1, .int (0 : Int32)), (0, .ref (zx_ad X 76))]) hX dX8_engagedSet_1 (by decide) rfl ?_
  refine zv_iconst (v := (0 : Int32)) hX dX8_engagedSet_2 zi_i_0 ?_
  refine zv_istore_n (lv' := [(2, .int (0 : Int32)), (1, .int (0 : Int32)), (0, .ref (zx_ad X 76))]) hX dX8_engagedSet_3 (by decide) rfl ?_
  exact zv_sub [2, 1, 0] rfl (b_X8_engagedSet_4 hX hT zFU (0 : Int32) (0 : Int32) s)
theorem dX8_oddsOf_0 : decode cX8_oddsOf 0 = .ok (.iconst 0, 1) := by decide +kernel
theorem dX8_oddsOf_1 : decode cX8_oddsOf 1 = .ok (.istore_n 2, 1) := by decide +kernel
theorem dX8_oddsOf_2 : decode cX8_oddsOf 2 = .ok (.iconst 0, 1) := by decide +kernel
theorem dX8_oddsOf_3 : decode cX8_oddsOf 3 = .ok (.istore_n 3, 1) := by decide +kernel
theorem dX8_oddsOf_4 : decode cX8_oddsOf 4 = .ok (.iload_n 3, 1) := by decide +kernel
theorem dX8_oddsOf_5 : decode cX8_oddsOf 5 = .ok (.aload_n 0, 1) := by decide +kernel
theorem dX8_oddsOf_6 : decode cX8_oddsOf 6 = .ok (.getfield 13, 3) := by decide +kernel
theorem dX8_oddsOf_9 : decode cX8_oddsOf 9 = .ok (.iconst 1, 1) := by decide +kernel
theorem dX8_oddsOf_10 : decode cX8_oddsOf 10 = .ok (.iaload, 1) := by decide +kernel
theorem dX8_oddsOf_11 : decode cX8_oddsOf 11 = .ok (.if_icmp .ge 34, 3) := by decide +kernel
theorem dX8_oddsOf_14 : decode cX8_oddsOf 14 = .ok (.iload_n 2, 1) := by decide +kernel
theorem dX8_oddsOf_15 : decode cX8_oddsOf 15 = .ok (.iload_n 1, 1) := by decide +kernel
theorem dX8_oddsOf_16 : decode cX8_oddsOf 16 = .ok (.i2l, 1) := by decide +kernel
theorem dX8_oddsOf_17 : decode cX8_oddsOf 17 = .ok (.iload_n 3, 1) := by decide +kernel
theorem dX8_oddsOf_18 : decode cX8_oddsOf 18 = .ok (.invokestatic 223, 3) := by decide +kernel
theorem dX8_oddsOf_21 : decode cX8_oddsOf 21 = .ok (.ifCond .eq 15, 3) := by decide +kernel
theorem dX8_oddsOf_24 : decode cX8_oddsOf 24 = .ok (.aload_n 0, 1) := by decide +kernel
theorem dX8_oddsOf_25 : decode cX8_oddsOf 25 = .ok (.getfield 13, 3) := by decide +kernel
theorem dX8_oddsOf_28 : decode cX8_oddsOf 28 = .ok (.bipush 15, 2) := by decide +kernel
theorem dX8_oddsOf_30 : decode cX8_oddsOf 30 = .ok (.iload_n 3, 1) := by decide +kernel
theorem dX8_oddsOf_31 : decode cX8_oddsOf 31 = .ok (.iadd, 1) := by decide +kernel
theorem dX8_oddsOf_32 : decode cX8_oddsOf 32 = .ok (.iaload, 1) := by decide +kernel
theorem dX8_oddsOf_33 : decode cX8_oddsOf 33 = .ok (.goto 4, 3) := by decide +kernel
theorem dX8_oddsOf_36 : decode cX8_oddsOf 36 = .ok (.iconst 0, 1) := by decide +kernel
theorem dX8_oddsOf_37 : decode cX8_oddsOf 37 = .ok (.iadd, 1) := by decide +kernel
theorem dX8_oddsOf_38 : decode cX8_oddsOf 38 = .ok (.istore_n 2, 1) := by decide +kernel
theorem dX8_oddsOf_39 : decode cX8_oddsOf 39 = .ok (.iinc 3 1, 3) := by decide +kernel
theorem dX8_oddsOf_42 : decode cX8_oddsOf 42 = .ok (.goto (-38), 3) := by decide +kernel
theorem dX8_oddsOf_45 : decode cX8_oddsOf 45 = .ok (.iload_n 2, 1) := by decide +kernel
theorem dX8_oddsOf_46 : decode cX8_oddsOf 46 = .ok (.ireturn, 1) := by decide +kernel
def f_X8_oddsOf_37 (kb_4 : Int32 → Int32 → Int32 → zS → Option (Int32 × zS)) (v1 : Int32) (v3 : Int32) (w0 : Int32) (w1 : Int32) (s : zS) : Option (Int32 × zS) :=
  zb (w1 + w0) fun x1 =>
  zb (v3 + (1 : Int32)) fun x2 =>
  kb_4 v1 x1 x2 s
set_option maxRecDepth 20000 in
theorem b_X8_oddsOf_37 {X : zX} {kb_4 : Int32 → Int32 → Int32 → zS → Option (Int32 × zS)} (hX : zx_ok X cX8_oddsOf RX8 4) (hT : zx_rt X (some .int) (zR 1 22)) (hk_4 : ∀ (v1 : Int32) (v2 : Int32) (v3 : Int32) (s : zS), zV X (zq X zrI) 4 4 [(0, .ref (zx_ad X 76)), (1, .int v1), (2, .int v2), (3, .int v3)] [] s (kb_4 v1 v2 v3 s)) : ∀ (v1 : Int32) (v3 : Int32) (w0 : Int32) (w1 : Int32) (s : zS), zV X (zq X zrI) 4 37 [(0, .ref (zx_ad X 76)), (1, .int v1), (3, .int v3)] [.int w0, .int w1] s (f_X8_oddsOf_37 kb_4 v1 v3 w0 w1 s) := by
  intro v1 v3 w0 w1 s
  unfold f_X8_oddsOf_37
  refine zv_iadd hX dX8_oddsOf_37 ?_
  refine zv_istB_n (lw := fun x1 => [(2, .int x1), (0, .ref (zx_ad X 76)), (1, .int v1), (3, .int v3)]) hX dX8_oddsOf_38 (by decide) (fun _ => rfl) (fun x1 => ?_)
  refine zv_iincB (lw := fun x2 => [(3, .int x2), (2, .int x1), (0, .ref (zx_ad X 76)), (1, .int v1)]) hX dX8_oddsOf_39 3 rfl zi_i_1 (by decide) (fun _ => rfl) (fun x2 => ?_)
  refine zv_goto (tgt := 4) hX dX8_oddsOf_42 rfl ?_
  exact zv_sub [2, 3, 1, 0] rfl (hk_4 v1 x1 x2 s)
def f_X8_oddsOf_4 : Nat → Int32 → Int32 → Int32 → zS → Option (Int32 × zS)
  | 0, _, _, _, _ => none
  | n + 1, v1, v2, v3, s =>
    (zr_i s 77 (1 : Int32)).bind fun x3 =>
    if x3 ≤ v3 then
    (some (v2, s))
    else
    zbd (f_X8_isIn (v1.toInt64) v3 s) fun r4 s5 =>
    if r4 = 0 then
    (f_X8_oddsOf_37 (f_X8_oddsOf_4 n) v1 v3 (0 : Int32) v2 s5)
    else
    (zr_i s5 77 ((nI 15) + v3)).bind fun x6 =>
    f_X8_oddsOf_37 (f_X8_oddsOf_4 n) v1 v3 x6 v2 s5
set_option maxRecDepth 20000 in
theorem b_X8_oddsOf_4 {X : zX} (hX : zx_ok X cX8_oddsOf RX8 4) (hT : zx_rt X (some .int) (zR 1 22)) : ∀ (n : Nat) (v1 : Int32) (v2 : Int32) (v3 : Int32) (s : zS), zV X (zq X zrI) 4 4 [(0, .ref (zx_ad X 76)), (1, .int v1), (2, .int v2), (3, .int v3)] [] s (f_X8_oddsOf_4 n v1 v2 v3 s) := by
  intro n
  induction n with
  | zero => intro v1 v2 v3 s; exact zv_none
  | succ n ih =>
    intro v1 v2 v3 s
    rw [f_X8_oddsOf_4]
    refine zv_iload_n hX dX8_oddsOf_4 3 rfl ?_
    refine zv_aload_n hX dX8_oddsOf_5 0 rfl ?_
    refine zv_geta hX wf_X8_13 wc_8 zd_76 zj_76_1 c9_8 zr_76_1 (by decide) dX8_oddsOf_6 ?_
    refine zv_iconst (v := (1 : Int32)) hX dX8_oddsOf_9 zi_i_1 ?_
    refine zv_iald hX dX8_oddsOf_10 (fun x3 => ?_)
    refine zv_icmp_ge (tgt := 45) hX dX8_oddsOf_11 rfl ?_ ?_
    · refine zv_iload_n hX dX8_oddsOf_45 2 rfl ?_
      exact zv_ireti hX hT dX8_oddsOf_46
    · refine zv_iload_n hX dX8_oddsOf_14 2 rfl ?_
      refine zv_iload_n hX dX8_oddsOf_15 1 rfl ?_
      refine zv_i2l hX dX8_oddsOf_16 ?_
      refine zv_iload_n hX dX8_oddsOf_17 3 rfl ?_
      refine zv_cSI [.long (v1.toInt64), .int v3] (rest := [.int v2]) hX hT.2.2.2.2 (c_X8_isIn (zx_Y X) (v1.toInt64) v3 s) wv_X8_isIn wm_X8_223 rfl (Nat.le_of_ble_eq_true rfl) (Nat.le_of_ble_eq_true rfl) rfl (Nat.le_of_ble_eq_true rfl) dX8_oddsOf_18 (fun r4 s5 => ?_)
      refine zv_if_eq (tgt := 36) hX dX8_oddsOf_21 rfl ?_ ?_
      · refine zv_iconst (v := (0 : Int32)) hX dX8_oddsOf_36 zi_i_0 ?_
        exact zv_sub [0, 1, 3] rfl (b_X8_oddsOf_37 hX hT ih v1 v3 (0 : Int32) v2 s5)
      · refine zv_aload_n hX dX8_oddsOf_24 0 rfl ?_
        refine zv_geta hX wf_X8_13 wc_8 zd_76 zj_76_1 c9_8 zr_76_1 (by decide) dX8_oddsOf_25 ?_
        refine zv_bipush (v := (nI 15)) hX dX8_oddsOf_28 zi_b_15 ?_
        refine zv_iload_n hX dX8_oddsOf_30 3 rfl ?_
        refine zv_iadd hX dX8_oddsOf_31 ?_
        refine zv_iald hX dX8_oddsOf_32 (fun x6 => ?_)
        refine zv_goto (tgt := 37) hX dX8_oddsOf_33 rfl ?_
        exact zv_sub [0, 1, 3] rfl (b_X8_oddsOf_37 hX hT ih v1 v3 x6 v2 s5)
def f_X8_oddsOf (v1 : Int32) (s : zS) : Option (Int32 × zS) :=
  f_X8_oddsOf_4 zFU v1 (0 : Int32) (0 : Int32) s
set_option maxRecDepth 20000 in
theorem c_X8_oddsOf (Y : zG) (v1 : Int32) (s : zS) : zM Y yX8_oddsOf cX8_oddsOf 4 (some .int) (zR 1 22) [.ref (zy_a Y 76), .int v1] s zrI (f_X8_oddsOf v1 s) := by
  refine zm_start (by decide +kernel) (Nat.le_of_ble_eq_true rfl) ?_
  intro X hY hT hX
  subst hY
  have hX : zx_ok X cX8_oddsOf RX8 4 := hX
  show zV X (zq X zrI) 4 0 [(0, .ref (zx_ad X 76)), (1, .int v1)] [] s _
  unfold f_X8_oddsOf
  refine zv_iconst (v := (0 : Int32)) hX dX8_oddsOf_0 zi_i_0 ?_
  refine zv_istore_n (lv' := [(2, .int (0 : Int32)), (0, .ref (zx_ad X 76)), (1, .int v1)]) hX dX8_oddsOf_1 (by decide) rfl ?_
  refine zv_iconst (v := (0 : Int32)) hX dX8_oddsOf_2 zi_i_0 ?_
  refine zv_istore_n (lv' := [(3, .int (0 : Int32)), (2, .int (0 : Int32)), (0, .ref (zx_ad X 76)), (1, .int v1)]) hX dX8_oddsOf_3 (by decide) rfl ?_
  exact zv_sub [2, 3, 1, 0] rfl (b_X8_oddsOf_4 hX hT zFU v1 (0 : Int32) (0 : Int32) s)
theorem dX8_count_0 : decode cX8_count 0 = .ok (.aload_n 0, 1) := by decide +kernel
theorem dX8_count_1 : decode cX8_count 1 = .ok (.iconst 0, 1) := by decide +kernel
theorem dX8_count_2 : decode cX8_count 2 = .ok (.putfield 1, 3) := by decide +kernel
theorem dX8_count_5 : decode cX8_count 5 = .ok (.iload_n 1, 1) := by decide +kernel
theorem dX8_count_6 : decode cX8_count 6 = .ok (.tableswitch 102 0 7 #[46, 53, 58, 68, 75, 82, 90, 95], 46) := by decide +kernel
theorem dX8_count_52 : decode cX8_count 52 = .ok (.aload_n 0, 1) := by decide +kernel
theorem dX8_count_53 : decode cX8_count 53 = .ok (.getfield 13, 3) := by decide +kernel
theorem dX8_count_56 : decode cX8_count 56 = .ok (.iconst 1, 1) := by decide +kernel
theorem dX8_count_57 : decode cX8_count 57 = .ok (.iaload, 1) := by decide +kernel
theorem dX8_count_58 : decode cX8_count 58 = .ok (.ireturn, 1) := by decide +kernel
theorem dX8_count_59 : decode cX8_count 59 = .ok (.aload_n 0, 1) := by decide +kernel
theorem dX8_count_60 : decode cX8_count 60 = .ok (.invokevirtual 358, 3) := by decide +kernel
theorem dX8_count_63 : decode cX8_count 63 = .ok (.ireturn, 1) := by decide +kernel
theorem dX8_count_64 : decode cX8_count 64 = .ok (.aload_n 0, 1) := by decide +kernel
theorem dX8_count_65 : decode cX8_count 65 = .ok (.invokevirtual 358, 3) := by decide +kernel
theorem dX8_count_68 : decode cX8_count 68 = .ok (.invokestatic 233, 3) := by decide +kernel
theorem dX8_count_71 : decode cX8_count 71 = .ok (.iconst 2, 1) := by decide +kernel
theorem dX8_count_72 : decode cX8_count 72 = .ok (.idiv, 1) := by decide +kernel
theorem dX8_count_73 : decode cX8_count 73 = .ok (.ireturn, 1) := by decide +kernel
theorem dX8_count_74 : decode cX8_count 74 = .ok (.aload_n 0, 1) := by decide +kernel
theorem dX8_count_75 : decode cX8_count 75 = .ok (.bipush 127, 2) := by decide +kernel
theorem dX8_count_77 : decode cX8_count 77 = .ok (.invokevirtual 261, 3) := by decide +kernel
theorem dX8_count_80 : decode cX8_count 80 = .ok (.ireturn, 1) := by decide +kernel
theorem dX8_count_81 : decode cX8_count 81 = .ok (.aload_n 0, 1) := by decide +kernel
theorem dX8_count_82 : decode cX8_count 82 = .ok (.bipush 127, 2) := by decide +kernel
theorem dX8_count_84 : decode cX8_count 84 = .ok (.invokevirtual 438, 3) := by decide +kernel
theorem dX8_count_87 : decode cX8_count 87 = .ok (.ireturn, 1) := by decide +kernel
theorem dX8_count_88 : decode cX8_count 88 = .ok (.aload_n 0, 1) := by decide +kernel
theorem dX8_count_89 : decode cX8_count 89 = .ok (.getfield 13, 3) := by decide +kernel
theorem dX8_count_92 : decode cX8_count 92 = .ok (.bipush 43, 2) := by decide +kernel
theorem dX8_count_94 : decode cX8_count 94 = .ok (.iaload, 1) := by decide +kernel
theorem dX8_count_95 : decode cX8_count 95 = .ok (.ireturn, 1) := by decide +kernel
theorem dX8_count_96 : decode cX8_count 96 = .ok (.aload_n 0, 1) := by decide +kernel
theorem dX8_count_97 : decode cX8_count 97 = .ok (.getfield 92, 3) := by decide +kernel
theorem dX8_count_100 : decode cX8_count 100 = .ok (.ireturn, 1) := by decide +kernel
theorem dX8_count_101 : decode cX8_count 101 = .ok (.aload_n 0, 1) := by decide +kernel
theorem dX8_count_102 : decode cX8_count 102 = .ok (.getfield 13, 3) := by decide +kernel
theorem dX8_count_105 : decode cX8_count 105 = .ok (.iconst 0, 1) := by decide +kernel
theorem dX8_count_106 : decode cX8_count 106 = .ok (.iaload, 1) := by decide +kernel
theorem dX8_count_107 : decode cX8_count 107 = .ok (.ireturn, 1) := by decide +kernel
theorem dX8_count_108 : decode cX8_count 108 = .ok (.iconst (-1), 1) := by decide +kernel
theorem dX8_count_109 : decode cX8_count 109 = .ok (.ireturn, 1) := by decide +kernel
def f_X8_count (v1 : Int32) (s : zS) : Option (Int32 × zS) :=
  zb (zs_i s 76 0 (0 : Int32)) fun s1 =>
  if v1 = (0 : Int32) then
  ((zr_i s1 77 (1 : Int32)).bind fun x2 =>
  some (x2, s1))
  else if v1 = (1 : Int32) then
  (zbd (f_X8_engagedSet s1) fun r3 s4 =>
  some (r3, s4))
  else if v1 = (nI 2) then
  (zbd (f_X8_engagedSet s1) fun r5 s6 =>
  zbd (f_X8_bitsOf r5 s6) fun r7 s8 =>
  some (r7 / (nI 2), s8))
  else if v1 = (nI 3) then
  (zbd (f_X8_inkOf (nI 127) s1) fun r9 s10 =>
  some (r9, s10))
  else if v1 = (nI 4) then
  (zbd (f_X8_oddsOf (nI 127) s1) fun r11 s12 =>
  some (r11, s12))
  else if v1 = (nI 5) then
  ((zr_i s1 77 (nI 43)).bind fun x13 =>
  some (x13, s1))
  else if v1 = (nI 6) then
  (some (s1.1 76 5, s1))
  else if v1 = (nI 7) then
  ((zr_i s1 77 (0 : Int32)).bind fun x14 =>
  some (x14, s1))
  else 
  some ((-1 : Int32), s1)
set_option maxRecDepth 20000 in
theorem c_X8_count (Y : zG) (v1 : Int32) (s : zS) : zM Y yX8_count cX8_count 2 (some .int) (zR 2 45) [.ref (zy_a Y 76), .int v1] s zrI (f_X8_count v1 s) := by
  refine zm_start (by decide +kernel) (Nat.le_of_ble_eq_true rfl) ?_
  intro X hY hT hX
  subst hY
  have hX : zx_ok X cX8_count RX8 2 := hX
  show zV X (zq X zrI) 2 0 [(0, .ref (zx_ad X 76)), (1, .int v1)] [] s _
  unfold f_X8_count
  refine zv_aload_n hX dX8_count_0 0 rfl ?_
  refine zv_iconst (v := (0 : Int32)) hX dX8_count_1 zi_i_0 ?_
  refine zv_puti hX wf_X8_1 wc_8 wk_8_0 zd_76 zj_76_0 c9_8 zr_76_0 dX8_count_2 (fun s1 => ?_)
  refine zv_iload_n hX dX8_count_5 1 rfl ?_
  refine zv_ite (fun h6_0 => ?_) (fun h6_0 => ?_)
  · refine zv_tabI (tgt := 52) hX dX8_count_6 (0 : Int32) h6_0 (by decide) (by decide) rfl rfl ?_
    refine zv_aload_n hX dX8_count_52 0 rfl ?_
    refine zv_geta hX wf_X8_13 wc_8 zd_76 zj_76_1 c9_8 zr_76_1 (by decide) dX8_count_53 ?_
    refine zv_iconst (v := (1 : Int32)) hX dX8_count_56 zi_i_1 ?_
    refine zv_iald hX dX8_count_57 (fun x2 => ?_)
    exact zv_ireti hX hT dX8_count_58
  refine zv_ite (fun h6_1 => ?_) (fun h6_1 => ?_)
  · refine zv_tabI (tgt := 59) hX dX8_count_6 (1 : Int32) h6_1 (by decide) (by decide) rfl rfl ?_
    refine zv_aload_n hX dX8_count_59 0 rfl ?_
    refine zv_cVI [] (rest := []) hX hT.2.2.2.2 (c_X8_engagedSet (zx_Y X) s1) wv_X8_engagedSet c9_8 zd_76 wm_X8_358 rfl (Nat.le_of_ble_eq_true rfl) (Nat.le_of_ble_eq_true rfl) rfl (Nat.le_of_ble_eq_true rfl) dX8_count_60 (fun r3 s4 => ?_)
    exact zv_ireti hX hT dX8_count_63
  refine zv_ite (fun h6_2 => ?_) (fun h6_2 => ?_)
  · refine zv_tabI (tgt := 64) hX dX8_count_6 (nI 2) h6_2 (by decide) (by decide) rfl rfl ?_
    refine zv_aload_n hX dX8_count_64 0 rfl ?_
    refine zv_cVI [] (rest := []) hX hT.2.2.2.2 (c_X8_engagedSet (zx_Y X) s1) wv_X8_engagedSet c9_8 zd_76 wm_X8_358 rfl (Nat.le_of_ble_eq_true rfl) (Nat.le_of_ble_eq_true rfl) rfl (Nat.le_of_ble_eq_true rfl) dX8_count_65 (fun r5 s6 => ?_)
    refine zv_cSI [.int r5] (rest := []) hX hT.2.2.2.2 (c_X8_bitsOf (zx_Y X) r5 s6) wv_X8_bitsOf wm_X8_233 rfl (Nat.le_of_ble_eq_true rfl) (Nat.le_of_ble_eq_true rfl) rfl (Nat.le_of_ble_eq_true rfl) dX8_count_68 (fun r7 s8 => ?_)
    refine zv_iconst (v := (nI 2)) hX dX8_count_71 zi_i_2 ?_
    refine zv_idiv hX dX8_count_72 (by decide) ?_
    exact zv_ireti hX hT dX8_count_73
  refine zv_ite (fun h6_3 => ?_) (fun h6_3 => ?_)
  · refine zv_tabI (tgt := 74) hX dX8_count_6 (nI 3) h6_3 (by decide) (by decide) rfl rfl ?_
    refine zv_aload_n hX dX8_count_74 0 rfl ?_
    refine zv_bipush (v := (nI 127)) hX dX8_count_75 zi_b_127 ?_
    refine zv_cVI [.int (nI 127)] (rest := []) hX hT.2.2.2.2 (c_X8_inkOf (zx_Y X) (nI 127) s1) wv_X8_inkOf c9_8 zd_76 wm_X8_261 rfl (Nat.le_of_ble_eq_true rfl) (Nat.le_of_ble_eq_true rfl) rfl (Nat.le_of_ble_eq_true rfl) dX8_count_77 (fun r9 s10 => ?_)
    exact zv_ireti hX hT dX8_count_80
  refine zv_ite (fun h6_4 => ?_) (fun h6_4 => ?_)
  · refine zv_tabI (tgt := 81) hX dX8_count_6 (nI 4) h6_4 (by decide) (by decide) rfl rfl ?_
    refine zv_aload_n hX dX8_count_81 0 rfl ?_
    refine zv_bipush (v := (nI 127)) hX dX8_count_82 zi_b_127 ?_
    refine zv_cVI [.int (nI 127)] (rest := []) hX hT.2.2.2.2 (c_X8_oddsOf (zx_Y X) (nI 127) s1) wv_X8_oddsOf c9_8 zd_76 wm_X8_438 rfl (Nat.le_of_ble_eq_true rfl) (Nat.le_of_ble_eq_true rfl) rfl (Nat.le_of_ble_eq_true rfl) dX8_count_84 (fun r11 s12 => ?_)
    exact zv_ireti hX hT dX8_count_87
  refine zv_ite (fun h6_5 => ?_) (fun h6_5 => ?_)
  · refine zv_tabI (tgt := 88) hX dX8_count_6 (nI 5) h6_5 (by decide) (by decide) rfl rfl ?_
    refine zv_aload_n hX dX8_count_88 0 rfl ?_
    refine zv_geta hX wf_X8_13 wc_8 zd_76 zj_76_1 c9_8 zr_76_1 (by decide) dX8_count_89 ?_
    refine zv_bipush (v := (nI 43)) hX dX8_count_92 zi_b_43 ?_
    refine zv_iald hX dX8_count_94 (fun x13 => ?_)
    exact zv_ireti hX hT dX8_count_95
  refine zv_ite (fun h6_6 => ?_) (fun h6_6 => ?_)
  · refine zv_tabI (tgt := 96) hX dX8_count_6 (nI 6) h6_6 (by decide) (by decide) rfl rfl ?_
    refine zv_aload_n hX dX8_count_96 0 rfl ?_
    refine zv_geti hX wf_X8_92 wc_8 zd_76 zj_76_5 c9_8 zr_76_5 dX8_count_97 ?_
    exact zv_ireti hX hT dX8_count_100
  refine zv_ite (fun h6_7 => ?_) (fun h6_7 => ?_)
  · refine zv_tabI (tgt := 101) hX dX8_count_6 (nI 7) h6_7 (by decide) (by decide) rfl rfl ?_
    refine zv_aload_n hX dX8_count_101 0 rfl ?_
    refine zv_geta hX wf_X8_13 wc_8 zd_76 zj_76_1 c9_8 zr_76_1 (by decide) dX8_count_102 ?_
    refine zv_iconst (v := (0 : Int32)) hX dX8_count_105 zi_i_0 ?_
    refine zv_iald hX dX8_count_106 (fun x14 => ?_)
    exact zv_ireti hX hT dX8_count_107
  refine zv_tabO (tgt := 108) hX dX8_count_6 (zt_out 0 8 (by decide) (fun j hj => by match j, hj with | 0, _ => exact h6_0 | 1, _ => exact h6_1 | 2, _ => exact h6_2 | 3, _ => exact h6_3 | 4, _ => exact h6_4 | 5, _ => exact h6_5 | 6, _ => exact h6_6 | 7, _ => exact h6_7)) rfl ?_
  refine zv_iconst (v := (-1 : Int32)) hX dX8_count_108 zi_i_m1 ?_
  exact zv_ireti hX hT dX8_count_109
theorem dX8_crosses_0 : decode cX8_crosses 0 = .ok (.aload_n 0, 1) := by decide +kernel
theorem dX8_crosses_1 : decode cX8_crosses 1 = .ok (.iconst 0, 1) := by decide +kernel
theorem dX8_crosses_2 : decode cX8_crosses 2 = .ok (.putfield 1, 3) := by decide +kernel
theorem dX8_crosses_5 : decode cX8_crosses 5 = .ok (.aload_n 0, 1) := by decide +kernel
theorem dX8_crosses_6 : decode cX8_crosses 6 = .ok (.iload_n 1, 1) := by decide +kernel
theorem dX8_crosses_7 : decode cX8_crosses 7 = .ok (.i2l, 1) := by decide +kernel
theorem dX8_crosses_8 : decode cX8_crosses 8 = .ok (.iload_n 2, 1) := by decide +kernel
theorem dX8_crosses_9 : decode cX8_crosses 9 = .ok (.i2l, 1) := by decide +kernel
theorem dX8_crosses_10 : decode cX8_crosses 10 = .ok (.invokevirtual 290, 3) := by decide +kernel
theorem dX8_crosses_13 : decode cX8_crosses 13 = .ok (.ifCond .eq 12, 3) := by decide +kernel
theorem dX8_crosses_16 : decode cX8_crosses 16 = .ok (.aload_n 0, 1) := by decide +kernel
theorem dX8_crosses_17 : decode cX8_crosses 17 = .ok (.iload_n 1, 1) := by decide +kernel
theorem dX8_crosses_18 : decode cX8_crosses 18 = .ok (.iload_n 2, 1) := by decide +kernel
theorem dX8_crosses_19 : decode cX8_crosses 19 = .ok (.invokevirtual 268, 3) := by decide +kernel
theorem dX8_crosses_22 : decode cX8_crosses 22 = .ok (.goto 5, 3) := by decide +kernel
theorem dX8_crosses_25 : decode cX8_crosses 25 = .ok (.bipush (-2), 2) := by decide +kernel
theorem dX8_crosses_27 : decode cX8_crosses 27 = .ok (.ireturn, 1) := by decide +kernel
def f_X8_crosses_27 (w0 : Int32) (s : zS) : Option (Int32 × zS) :=
  some (w0, s)
set_option maxRecDepth 20000 in
theorem b_X8_crosses_27 {X : zX} (hX : zx_ok X cX8_crosses RX8 3) (hT : zx_rt X (some .int) (zR 69 1713)) : ∀ (w0 : Int32) (s : zS), zV X (zq X zrI) 3 27 [] [.int w0] s (f_X8_crosses_27 w0 s) := by
  intro w0 s
  unfold f_X8_crosses_27
  exact zv_ireti hX hT dX8_crosses_27
def f_X8_crosses (v1 : Int32) (v2 : Int32) (s : zS) : Option (Int32 × zS) :=
  zb (zs_i s 76 0 (0 : Int32)) fun s1 =>
  zbd (f_X8_areTwo (v1.toInt64) (v2.toInt64) s1) fun r2 s3 =>
  if r2 = 0 then
  (f_X8_crosses_27 (-2 : Int32) s3)
  else
  zbd (f_X8_crossOf v1 v2 s3) fun r4 s5 =>
  f_X8_crosses_27 r4 s5
set_option maxRecDepth 20000 in
theorem c_X8_crosses (Y : zG) (v1 : Int32) (v2 : Int32) (s : zS) : zM Y yX8_crosses cX8_crosses 3 (some .int) (zR 69 1713) [.ref (zy_a Y 76), .int v1, .int v2] s zrI (f_X8_crosses v1 v2 s) := by
  refine zm_start (by decide +kernel) (Nat.le_of_ble_eq_true rfl) ?_
  intro X hY hT hX
  subst hY
  have hX : zx_ok X cX8_crosses RX8 3 := hX
  show zV X (zq X zrI) 3 0 [(0, .ref (zx_ad X 76)), (1, .int v1), (2, .int v2)] [] s _
  unfold f_X8_crosses
  refine zv_aload_n hX dX8_crosses_0 0 rfl ?_
  refine zv_iconst (v := (0 : Int32)) hX dX8_crosses_1 zi_i_0 ?_
  refine zv_puti hX wf_X8_1 wc_8 wk_8_0 zd_76 zj_76_0 c9_8 zr_76_0 dX8_crosses_2 (fun s1 => ?_)
  refine zv_aload_n hX dX8_crosses_5 0 rfl ?_
  refine zv_iload_n hX dX8_crosses_6 1 rfl ?_
  refine zv_i2l hX dX8_crosses_7 ?_
  refine zv_iload_n hX dX8_crosses_8 2 rfl ?_
  refine zv_i2l hX dX8_crosses_9 ?_
  refine zv_cVI [.long (v1.toInt64), .long (v2.toInt64)] (rest := []) hX hT.2.2.2.2 (c_X8_areTwo (zx_Y X) (v1.toInt64) (v2.toInt64) s1) wv_X8_areTwo c9_8 zd_76 wm_X8_290 rfl (Nat.le_of_ble_eq_true rfl) (Nat.le_of_ble_eq_true rfl) rfl (Nat.le_of_ble_eq_true rfl) dX8_crosses_10 (fun r2 s3 => ?_)
  refine zv_if_eq (tgt := 25) hX dX8_crosses_13 rfl ?_ ?_
  · refine zv_bipush (v := (-2 : Int32)) hX dX8_crosses_25 zi_b_m2 ?_
    exact zv_sub [] rfl (b_X8_crosses_27 hX hT (-2 : Int32) s3)
  · refine zv_aload_n hX dX8_crosses_16 0 rfl ?_
    refine zv_iload_n hX dX8_crosses_17 1 rfl ?_
    refine zv_iload_n hX dX8_crosses_18 2 rfl ?_
    refine zv_cVI [.int v1, .int v2] (rest := []) hX hT.2.2.2.2 (c_X8_crossOf (zx_Y X) v1 v2 s3) wv_X8_crossOf c9_8 zd_76 wm_X8_268 rfl (Nat.le_of_ble_eq_true rfl) (Nat.le_of_ble_eq_true rfl) rfl (Nat.le_of_ble_eq_true rfl) dX8_crosses_19 (fun r4 s5 => ?_)
    refine zv_goto (tgt := 27) hX dX8_crosses_22 rfl ?_
    exact zv_sub [] rfl (b_X8_crosses_27 hX hT r4 s5)
theorem dX8_cut_0 : decode cX8_cut 0 = .ok (.iload_n 2, 1) := by decide +kernel
theorem dX8_cut_1 : decode cX8_cut 1 = .ok (.ifCond .ne 10, 3) := by decide +kernel
theorem dX8_cut_4 : decode cX8_cut 4 = .ok (.lload_n 0, 1) := by decide +kernel
theorem dX8_cut_5 : decode cX8_cut 5 = .ok (.l2i, 1) := by decide +kernel
theorem dX8_cut_6 : decode cX8_cut 6 = .ok (.i2b, 1) := by decide +kernel
theorem dX8_cut_7 : decode cX8_cut 7 = .ok (.i2l, 1) := by decide +kernel
theorem dX8_cut_8 : decode cX8_cut 8 = .ok (.goto 27, 3) := by decide +kernel
theorem dX8_cut_11 : decode cX8_cut 11 = .ok (.iload_n 2, 1) := by decide +kernel
theorem dX8_cut_12 : decode cX8_cut 12 = .ok (.iconst 1, 1) := by decide +kernel
theorem dX8_cut_13 : decode cX8_cut 13 = .ok (.if_icmp .ne 10, 3) := by decide +kernel
theorem dX8_cut_16 : decode cX8_cut 16 = .ok (.lload_n 0, 1) := by decide +kernel
theorem dX8_cut_17 : decode cX8_cut 17 = .ok (.l2i, 1) := by decide +kernel
theorem dX8_cut_18 : decode cX8_cut 18 = .ok (.i2s, 1) := by decide +kernel
theorem dX8_cut_19 : decode cX8_cut 19 = .ok (.i2l, 1) := by decide +kernel
theorem dX8_cut_20 : decode cX8_cut 20 = .ok (.goto 15, 3) := by decide +kernel
theorem dX8_cut_23 : decode cX8_cut 23 = .ok (.iload_n 2, 1) := by decide +kernel
theorem dX8_cut_24 : decode cX8_cut 24 = .ok (.iconst 2, 1) := by decide +kernel
theorem dX8_cut_25 : decode cX8_cut 25 = .ok (.if_icmp .ne 9, 3) := by decide +kernel
theorem dX8_cut_28 : decode cX8_cut 28 = .ok (.lload_n 0, 1) := by decide +kernel
theorem dX8_cut_29 : decode cX8_cut 29 = .ok (.l2i, 1) := by decide +kernel
theorem dX8_cut_30 : decode cX8_cut 30 = .ok (.i2l, 1) := by decide +kernel
theorem dX8_cut_31 : decode cX8_cut 31 = .ok (.goto 4, 3) := by decide +kernel
theorem dX8_cut_34 : decode cX8_cut 34 = .ok (.lload_n 0, 1) := by decide +kernel
theorem dX8_cut_35 : decode cX8_cut 35 = .ok (.lreturn, 1) := by decide +kernel
def f_X8_cut_35 (w0 : Int64) (s : zS) : Option (Int64 × zS) :=
  some (w0, s)
set_option maxRecDepth 20000 in
theorem b_X8_cut_35 {X : zX} (hX : zx_ok X cX8_cut RX8 3) (hT : zx_rt X (some .long) (zR 0 0)) : ∀ (w0 : Int64) (s : zS), zV X (zq X zrJ) 3 35 [] [.long w0] s (f_X8_cut_35 w0 s) := by
  intro w0 s
  unfold f_X8_cut_35
  exact zv_lret hX hT dX8_cut_35
def f_X8_cut (v0 : Int64) (v2 : Int32) (s : zS) : Option (Int64 × zS) :=
  if ¬ v2 = 0 then
  (if ¬ v2 = (1 : Int32) then
  (if ¬ v2 = (nI 2) then
  (f_X8_cut_35 v0 s)
  else
  f_X8_cut_35 ((v0.toInt32).toInt64) s)
  else
  f_X8_cut_35 (((v0.toInt32).toInt16.toInt32).toInt64) s)
  else
  f_X8_cut_35 (((v0.toInt32).toInt8.toInt32).toInt64) s
set_option maxRecDepth 20000 in
theorem c_X8_cut (Y : zG) (v0 : Int64) (v2 : Int32) (s : zS) : zM Y yX8_cut cX8_cut 3 (some .long) (zR 0 0) [.long v0, .int v2] s zrJ (f_X8_cut v0 v2 s) := by
  refine zm_start (by decide +kernel) (Nat.le_of_ble_eq_true rfl) ?_
  intro X hY hT hX
  subst hY
  have hX : zx_ok X cX8_cut RX8 3 := hX
  show zV X (zq X zrJ) 3 0 [(0, .long v0), (2, .int v2)] [] s _
  unfold f_X8_cut
  refine zv_iload_n hX dX8_cut_0 1 rfl ?_
  refine zv_if_ne (tgt := 11) hX dX8_cut_1 rfl ?_ ?_
  · refine zv_iload_n hX dX8_cut_11 1 rfl ?_
    refine zv_iconst (v := (1 : Int32)) hX dX8_cut_12 zi_i_1 ?_
    refine zv_icmp_ne (tgt := 23) hX dX8_cut_13 rfl ?_ ?_
    · refine zv_iload_n hX dX8_cut_23 1 rfl ?_
      refine zv_iconst (v := (nI 2)) hX dX8_cut_24 zi_i_2 ?_
      refine zv_icmp_ne (tgt := 34) hX dX8_cut_25 rfl ?_ ?_
      · refine zv_lload_n hX dX8_cut_34 0 rfl ?_
        exact zv_sub [] rfl (b_X8_cut_35 hX hT v0 s)
      · refine zv_lload_n hX dX8_cut_28 0 rfl ?_
        refine zv_l2i hX dX8_cut_29 ?_
        refine zv_i2l hX dX8_cut_30 ?_
        refine zv_goto (tgt := 35) hX dX8_cut_31 rfl ?_
        exact zv_sub [] rfl (b_X8_cut_35 hX hT ((v0.toInt32).toInt64) s)
    · refine zv_lload_n hX dX8_cut_16 0 rfl ?_
      refine zv_l2i hX dX8_cut_17 ?_
      refine zv_i2s hX dX8_cut_18 ?_
      refine zv_i2l hX dX8_cut_19 ?_
      refine zv_goto (tgt := 35) hX dX8_cut_20 rfl ?_
      exact zv_sub [] rfl (b_X8_cut_35 hX hT (((v0.toInt32).toInt16.toInt32).toInt64) s)
  · refine zv_lload_n hX dX8_cut_4 0 rfl ?_
    refine zv_l2i hX dX8_cut_5 ?_
    refine zv_i2b hX dX8_cut_6 ?_
    refine zv_i2l hX dX8_cut_7 ?_
    refine zv_goto (tgt := 35) hX dX8_cut_8 rfl ?_
    exact zv_sub [] rfl (b_X8_cut_35 hX hT (((v0.toInt32).toInt8.toInt32).toInt64) s)
theorem dX8_leaves_0 : decode cX8_leaves 0 = .ok (.aload_n 0, 1) := by decide +kernel
theorem dX8_leaves_1 : decode cX8_leaves 1 = .ok (.getfield 13, 3) := by decide +kernel
theorem dX8_leaves_4 : decode cX8_leaves 4 = .ok (.bipush 22, 2) := by decide +kernel
theorem dX8_leaves_6 : decode cX8_leaves 6 = .ok (.iload_n 1, 1) := by decide +kernel
theorem dX8_leaves_7 : decode cX8_leaves 7 = .ok (.iadd, 1) := by decide +kernel
theorem dX8_leaves_8 : decode cX8_leaves 8 = .ok (.iaload, 1) := by decide +kernel
theorem dX8_leaves_9 : decode cX8_leaves 9 = .ok (.istore_n 2, 1) := by decide +kernel
theorem dX8_leaves_10 : decode cX8_leaves 10 = .ok (.iload_n 2, 1) := by decide +kernel
theorem dX8_leaves_11 : decode cX8_leaves 11 = .ok (.iconst (-1), 1) := by decide +kernel
theorem dX8_leaves_12 : decode cX8_leaves 12 = .ok (.if_icmp .ne 5, 3) := by decide +kernel
theorem dX8_leaves_15 : decode cX8_leaves 15 = .ok (.iconst 0, 1) := by decide +kernel
theorem dX8_leaves_16 : decode cX8_leaves 16 = .ok (.ireturn, 1) := by decide +kernel
theorem dX8_leaves_17 : decode cX8_leaves 17 = .ok (.aload_n 0, 1) := by decide +kernel
theorem dX8_leaves_18 : decode cX8_leaves 18 = .ok (.getfield 13, 3) := by decide +kernel
theorem dX8_leaves_21 : decode cX8_leaves 21 = .ok (.bipush 22, 2) := by decide +kernel
theorem dX8_leaves_23 : decode cX8_leaves 23 = .ok (.iload_n 1, 1) := by decide +kernel
theorem dX8_leaves_24 : decode cX8_leaves 24 = .ok (.iadd, 1) := by decide +kernel
theorem dX8_leaves_25 : decode cX8_leaves 25 = .ok (.iconst (-1), 1) := by decide +kernel
theorem dX8_leaves_26 : decode cX8_leaves 26 = .ok (.iastore, 1) := by decide +kernel
theorem dX8_leaves_27 : decode cX8_leaves 27 = .ok (.aload_n 0, 1) := by decide +kernel
theorem dX8_leaves_28 : decode cX8_leaves 28 = .ok (.getfield 13, 3) := by decide +kernel
theorem dX8_leaves_31 : decode cX8_leaves 31 = .ok (.bipush 22, 2) := by decide +kernel
theorem dX8_leaves_33 : decode cX8_leaves 33 = .ok (.iload_n 2, 1) := by decide +kernel
theorem dX8_leaves_34 : decode cX8_leaves 34 = .ok (.iadd, 1) := by decide +kernel
theorem dX8_leaves_35 : decode cX8_leaves 35 = .ok (.iconst (-1), 1) := by decide +kernel
theorem dX8_leaves_36 : decode cX8_leaves 36 = .ok (.iastore, 1) := by decide +kernel
theorem dX8_leaves_37 : decode cX8_leaves 37 = .ok (.iconst 1, 1) := by decide +kernel
theorem dX8_leaves_38 : decode cX8_leaves 38 = .ok (.ireturn, 1) := by decide +kernel
def f_X8_leaves (v1 : Int32) (s : zS) : Option (Int32 × zS) :=
  (zr_i s 77 ((nI 22) + v1)).bind fun x1 =>
  if ¬ x1 = (-1 : Int32) then
  ((zw_i s 77 ((nI 22) + v1) (-1 : Int32)).bind fun s2 =>
  (zw_i s2 77 ((nI 22) + x1) (-1 : Int32)).bind fun s3 =>
  some ((1 : Int32), s3))
  else
  some ((0 : Int32), s)
set_option maxRecDepth 20000 in
theorem c_X8_leaves (Y : zG) (v1 : Int32) (s : zS) : zM Y yX8_leaves cX8_leaves 3 (some .int) (zR 0 0) [.ref (zy_a Y 76), .int v1] s zrI (f_X8_leaves v1 s) := by
  refine zm_start (by decide +kernel) (Nat.le_of_ble_eq_true rfl) ?_
  intro X hY hT hX
  subst hY
  have hX : zx_ok X cX8_leaves RX8 3 := hX
  show zV X (zq X zrI) 3 0 [(0, .ref (zx_ad X 76)), (1, .int v1)] [] s _
  unfold f_X8_leaves
  refine zv_aload_n hX dX8_leaves_0 0 rfl ?_
  refine zv_geta hX wf_X8_13 wc_8 zd_76 zj_76_1 c9_8 zr_76_1 (by decide) dX8_leaves_1 ?_
  refine zv_bipush (v := (nI 22)) hX dX8_leaves_4 zi_b_22 ?_
  refine zv_iload_n hX dX8_leaves_6 1 rfl ?_
  refine zv_iadd hX dX8_leaves_7 ?_
  refine zv_iald hX dX8_leaves_8 (fun x1 => ?_)
  refine zv_istore_n (lv' := [(2, .int x1), (0, .ref (zx_ad X 76)), (1, .int v1)]) hX dX8_leaves_9 (by decide) rfl ?_
  refine zv_iload_n hX dX8_leaves_10 0 rfl ?_
  refine zv_iconst (v := (-1 : Int32)) hX dX8_leaves_11 zi_i_m1 ?_
  refine zv_icmp_ne (tgt := 17) hX dX8_leaves_12 rfl ?_ ?_
  · refine zv_aload_n hX dX8_leaves_17 1 rfl ?_
    refine zv_geta hX wf_X8_13 wc_8 zd_76 zj_76_1 c9_8 zr_76_1 (by decide) dX8_leaves_18 ?_
    refine zv_bipush (v := (nI 22)) hX dX8_leaves_21 zi_b_22 ?_
    refine zv_iload_n hX dX8_leaves_23 2 rfl ?_
    refine zv_iadd hX dX8_leaves_24 ?_
    refine zv_iconst (v := (-1 : Int32)) hX dX8_leaves_25 zi_i_m1 ?_
    refine zv_iast hX dX8_leaves_26 (fun s2 => ?_)
    refine zv_aload_n hX dX8_leaves_27 1 rfl ?_
    refine zv_geta hX wf_X8_13 wc_8 zd_76 zj_76_1 c9_8 zr_76_1 (by decide) dX8_leaves_28 ?_
    refine zv_bipush (v := (nI 22)) hX dX8_leaves_31 zi_b_22 ?_
    refine zv_iload_n hX dX8_leaves_33 0 rfl ?_
    refine zv_iadd hX dX8_leaves_34 ?_
    refine zv_iconst (v := (-1 : Int32)) hX dX8_leaves_35 zi_i_m1 ?_
    refine zv_iast hX dX8_leaves_36 (fun s3 => ?_)
    refine zv_iconst (v := (1 : Int32)) hX dX8_leaves_37 zi_i_1 ?_
    exact zv_ireti hX hT dX8_leaves_38
  · refine zv_iconst (v := (0 : Int32)) hX dX8_leaves_15 zi_i_0 ?_
    exact zv_ireti hX hT dX8_leaves_16
theorem dX8_engages_0 : decode cX8_engages 0 = .ok (.aload_n 0, 1) := by decide +kernel
theorem dX8_engages_1 : decode cX8_engages 1 = .ok (.iload_n 1, 1) := by decide +kernel
theorem dX8_engages_2 : decode cX8_engages 2 = .ok (.invokevirtual 298, 3) := by decide +kernel
theorem dX8_engages_5 : decode cX8_engages 5 = .ok (.aload_n 0, 1) := by decide +kernel
theorem dX8_engages_6 : decode cX8_engages 6 = .ok (.iload_n 2, 1) := by decide +kernel
theorem dX8_engages_7 : decode cX8_engages 7 = .ok (.invokevirtual 298, 3) := by decide +kernel
theorem dX8_engages_10 : decode cX8_engages 10 = .ok (.iadd, 1) := by decide +kernel
theorem dX8_engages_11 : decode cX8_engages 11 = .ok (.istore_n 3, 1) := by decide +kernel
theorem dX8_engages_12 : decode cX8_engages 12 = .ok (.aload_n 0, 1) := by decide +kernel
theorem dX8_engages_13 : decode cX8_engages 13 = .ok (.getfield 13, 3) := by decide +kernel
theorem dX8_engages_16 : decode cX8_engages 16 = .ok (.bipush 22, 2) := by decide +kernel
theorem dX8_engages_18 : decode cX8_engages 18 = .ok (.iload_n 1, 1) := by decide +kernel
theorem dX8_engages_19 : decode cX8_engages 19 = .ok (.iadd, 1) := by decide +kernel
theorem dX8_engages_20 : decode cX8_engages 20 = .ok (.iload_n 2, 1) := by decide +kernel
theorem dX8_engages_21 : decode cX8_engages 21 = .ok (.iastore, 1) := by decide +kernel
theorem dX8_engages_22 : decode cX8_engages 22 = .ok (.aload_n 0, 1) := by decide +kernel
theorem dX8_engages_23 : decode cX8_engages 23 = .ok (.getfield 13, 3) := by decide +kernel
theorem dX8_engages_26 : decode cX8_engages 26 = .ok (.bipush 22, 2) := by decide +kernel
theorem dX8_engages_28 : decode cX8_engages 28 = .ok (.iload_n 2, 1) := by decide +kernel
theorem dX8_engages_29 : decode cX8_engages 29 = .ok (.iadd, 1) := by decide +kernel
theorem dX8_engages_30 : decode cX8_engages 30 = .ok (.iload_n 1, 1) := by decide +kernel
theorem dX8_engages_31 : decode cX8_engages 31 = .ok (.iastore, 1) := by decide +kernel
theorem dX8_engages_32 : decode cX8_engages 32 = .ok (.iload_n 3, 1) := by decide +kernel
theorem dX8_engages_33 : decode cX8_engages 33 = .ok (.ireturn, 1) := by decide +kernel
def f_X8_engages (v1 : Int32) (v2 : Int32) (s : zS) : Option (Int32 × zS) :=
  zbd (f_X8_leaves v1 s) fun r1 s2 =>
  zbd (f_X8_leaves v2 s2) fun r3 s4 =>
  zb (r1 + r3) fun x5 =>
  (zw_i s4 77 ((nI 22) + v1) v2).bind fun s6 =>
  (zw_i s6 77 ((nI 22) + v2) v1).bind fun s7 =>
  some (x5, s7)
set_option maxRecDepth 20000 in
theorem c_X8_engages (Y : zG) (v1 : Int32) (v2 : Int32) (s : zS) : zM Y yX8_engages cX8_engages 4 (some .int) (zR 1 22) [.ref (zy_a Y 76), .int v1, .int v2] s zrI (f_X8_engages v1 v2 s) := by
  refine zm_start (by decide +kernel) (Nat.le_of_ble_eq_true rfl) ?_
  intro X hY hT hX
  subst hY
  have hX : zx_ok X cX8_engages RX8 4 := hX
  show zV X (zq X zrI) 4 0 [(0, .ref (zx_ad X 76)), (1, .int v1), (2, .int v2)] [] s _
  unfold f_X8_engages
  refine zv_aload_n hX dX8_engages_0 0 rfl ?_
  refine zv_iload_n hX dX8_engages_1 1 rfl ?_
  refine zv_cVI [.int v1] (rest := []) hX hT.2.2.2.2 (c_X8_leaves (zx_Y X) v1 s) wv_X8_leaves c9_8 zd_76 wm_X8_298 rfl (Nat.le_of_ble_eq_true rfl) (Nat.le_of_ble_eq_true rfl) rfl (Nat.le_of_ble_eq_true rfl) dX8_engages_2 (fun r1 s2 => ?_)
  refine zv_aload_n hX dX8_engages_5 0 rfl ?_
  refine zv_iload_n hX dX8_engages_6 2 rfl ?_
  refine zv_cVI [.int v2] (rest := [.int r1]) hX hT.2.2.2.2 (c_X8_leaves (zx_Y X) v2 s2) wv_X8_leaves c9_8 zd_76 wm_X8_298 rfl (Nat.le_of_ble_eq_true rfl) (Nat.le_of_ble_eq_true rfl) rfl (Nat.le_of_ble_eq_true rfl) dX8_engages_7 (fun r3 s4 => ?_)
  refine zv_iadd hX dX8_engages_10 ?_
  refine zv_istB_n (lw := fun x5 => [(3, .int x5), (0, .ref (zx_ad X 76)), (1, .int v1), (2, .int v2)]) hX dX8_engages_11 (by decide) (fun _ => rfl) (fun x5 => ?_)
  refine zv_aload_n hX dX8_engages_12 1 rfl ?_
  refine zv_geta hX wf_X8_13 wc_8 zd_76 zj_76_1 c9_8 zr_76_1 (by decide) dX8_engages_13 ?_
  refine zv_bipush (v := (nI 22)) hX dX8_engages_16 zi_b_22 ?_
  refine zv_iload_n hX dX8_engages_18 2 rfl ?_
  refine zv_iadd hX dX8_engages_19 ?_
  refine zv_iload_n hX dX8_engages_20 3 rfl ?_
  refine zv_iast hX dX8_engages_21 (fun s6 => ?_)
  refine zv_aload_n hX dX8_engages_22 1 rfl ?_
  refine zv_geta hX wf_X8_13 wc_8 zd_76 zj_76_1 c9_8 zr_76_1 (by decide) dX8_engages_23 ?_
  refine zv_bipush (v := (nI 22)) hX dX8_engages_26 zi_b_22 ?_
  refine zv_iload_n hX dX8_engages_28 3 rfl ?_
  refine zv_iadd hX dX8_engages_29 ?_
  refine zv_iload_n hX dX8_engages_30 2 rfl ?_
  refine zv_iast hX dX8_engages_31 (fun s7 => ?_)
  refine zv_iload_n hX dX8_engages_32 0 rfl ?_
  exact zv_ireti hX hT dX8_engages_33
theorem dX8_does_0 : decode cX8_does 0 = .ok (.iload_n 1, 1) := by decide +kernel
theorem dX8_does_1 : decode cX8_does 1 = .ok (.bipush 100, 2) := by decide +kernel
theorem dX8_does_3 : decode cX8_does 3 = .ok (.irem, 1) := by decide +kernel
theorem dX8_does_4 : decode cX8_does 4 = .ok (.bipush 10, 2) := by decide +kernel
theorem dX8_does_6 : decode cX8_does 6 = .ok (.idiv, 1) := by decide +kernel
theorem dX8_does_7 : decode cX8_does 7 = .ok (.istore_n 2, 1) := by decide +kernel
theorem dX8_does_8 : decode cX8_does 8 = .ok (.iload_n 1, 1) := by decide +kernel
theorem dX8_does_9 : decode cX8_does 9 = .ok (.bipush 10, 2) := by decide +kernel
theorem dX8_does_11 : decode cX8_does 11 = .ok (.irem, 1) := by decide +kernel
theorem dX8_does_12 : decode cX8_does 12 = .ok (.istore_n 3, 1) := by decide +kernel
theorem dX8_does_13 : decode cX8_does 13 = .ok (.iload_n 1, 1) := by decide +kernel
theorem dX8_does_14 : decode cX8_does 14 = .ok (.bipush 100, 2) := by decide +kernel
theorem dX8_does_16 : decode cX8_does 16 = .ok (.if_icmp .ge 13, 3) := by decide +kernel
theorem dX8_does_19 : decode cX8_does 19 = .ok (.aload_n 0, 1) := by decide +kernel
theorem dX8_does_20 : decode cX8_does 20 = .ok (.iload_n 2, 1) := by decide +kernel
theorem dX8_does_21 : decode cX8_does 21 = .ok (.iload_n 3, 1) := by decide +kernel
theorem dX8_does_22 : decode cX8_does 22 = .ok (.invokevirtual 310, 3) := by decide +kernel
theorem dX8_does_25 : decode cX8_does 25 = .ok (.pop, 1) := by decide +kernel
theorem dX8_does_26 : decode cX8_does 26 = .ok (.goto 54, 3) := by decide +kernel
theorem dX8_does_29 : decode cX8_does 29 = .ok (.iload_n 1, 1) := by decide +kernel
theorem dX8_does_30 : decode cX8_does 30 = .ok (.sipush 200, 3) := by decide +kernel
theorem dX8_does_33 : decode cX8_does 33 = .ok (.if_icmp .ge 12, 3) := by decide +kernel
theorem dX8_does_36 : decode cX8_does 36 = .ok (.aload_n 0, 1) := by decide +kernel
theorem dX8_does_37 : decode cX8_does 37 = .ok (.iload_n 3, 1) := by decide +kernel
theorem dX8_does_38 : decode cX8_does 38 = .ok (.invokevirtual 298, 3) := by decide +kernel
theorem dX8_does_41 : decode cX8_does 41 = .ok (.pop, 1) := by decide +kernel
theorem dX8_does_42 : decode cX8_does 42 = .ok (.goto 38, 3) := by decide +kernel
theorem dX8_does_45 : decode cX8_does 45 = .ok (.iload_n 1, 1) := by decide +kernel
theorem dX8_does_46 : decode cX8_does 46 = .ok (.sipush 300, 3) := by decide +kernel
theorem dX8_does_49 : decode cX8_does 49 = .ok (.if_icmp .ge 21, 3) := by decide +kernel
theorem dX8_does_52 : decode cX8_does 52 = .ok (.aload_n 0, 1) := by decide +kernel
theorem dX8_does_53 : decode cX8_does 53 = .ok (.getfield 13, 3) := by decide +kernel
theorem dX8_does_56 : decode cX8_does 56 = .ok (.bipush 29, 2) := by decide +kernel
theorem dX8_does_58 : decode cX8_does 58 = .ok (.iload_n 2, 1) := by decide +kernel
theorem dX8_does_59 : decode cX8_does 59 = .ok (.iadd, 1) := by decide +kernel
theorem dX8_does_60 : decode cX8_does 60 = .ok (.dup2, 1) := by decide +kernel
theorem dX8_does_61 : decode cX8_does 61 = .ok (.iaload, 1) := by decide +kernel
theorem dX8_does_62 : decode cX8_does 62 = .ok (.iconst 1, 1) := by decide +kernel
theorem dX8_does_63 : decode cX8_does 63 = .ok (.iload_n 3, 1) := by decide +kernel
theorem dX8_does_64 : decode cX8_does 64 = .ok (.ishl, 1) := by decide +kernel
theorem dX8_does_65 : decode cX8_does 65 = .ok (.ixor, 1) := by decide +kernel
theorem dX8_does_66 : decode cX8_does 66 = .ok (.iastore, 1) := by decide +kernel
theorem dX8_does_67 : decode cX8_does 67 = .ok (.goto 13, 3) := by decide +kernel
theorem dX8_does_70 : decode cX8_does 70 = .ok (.aload_n 0, 1) := by decide +kernel
theorem dX8_does_71 : decode cX8_does 71 = .ok (.getfield 13, 3) := by decide +kernel
theorem dX8_does_74 : decode cX8_does 74 = .ok (.bipush 36, 2) := by decide +kernel
theorem dX8_does_76 : decode cX8_does 76 = .ok (.iload_n 2, 1) := by decide +kernel
theorem dX8_does_77 : decode cX8_does 77 = .ok (.iadd, 1) := by decide +kernel
theorem dX8_does_78 : decode cX8_does 78 = .ok (.iload_n 3, 1) := by decide +kernel
theorem dX8_does_79 : decode cX8_does 79 = .ok (.iastore, 1) := by decide +kernel
theorem dX8_does_80 : decode cX8_does 80 = .ok (.return_, 1) := by decide +kernel
def f_X8_does_80  (s : zS) : Option (Unit × zS) :=
  some ((), s)
set_option maxRecDepth 20000 in
theorem b_X8_does_80 {X : zX} (hX : zx_ok X cX8_does RX8 4) (hT : zx_rt X none (zR 2 45)) : ∀  (s : zS), zV X (zq X zrV) 4 80 [] [] s (f_X8_does_80  s) := by
  intro  s
  unfold f_X8_does_80
  exact zv_vret hX hT dX8_does_80
def f_X8_does (v1 : Int32) (s : zS) : Option (Unit × zS) :=
  zb ((zo_rem v1 (nI 100)) / (nI 10)) fun x1 =>
  zb (zo_rem v1 (nI 10)) fun x2 =>
  if (nI 100) ≤ v1 then
  (if (nI 200) ≤ v1 then
  (if (nI 300) ≤ v1 then
  ((zw_i s 77 ((nI 36) + x1) x2).bind fun s3 =>
  f_X8_does_80 s3)
  else
  (zr_i s 77 ((nI 29) + x1)).bind fun x4 =>
  (zw_i s 77 ((nI 29) + x1) (x4 ^^^ (zo_shl (1 : Int32) x2))).bind fun s5 =>
  f_X8_does_80 s5)
  else
  zbd (f_X8_leaves x2 s) fun r6 s7 =>
  f_X8_does_80 s7)
  else
  zbd (f_X8_engages x1 x2 s) fun r8 s9 =>
  f_X8_does_80 s9
set_option maxRecDepth 20000 in
theorem c_X8_does (Y : zG) (v1 : Int32) (s : zS) : zM Y yX8_does cX8_does 4 none (zR 2 45) [.ref (zy_a Y 76), .int v1] s zrV (f_X8_does v1 s) := by
  refine zm_start (by decide +kernel) (Nat.le_of_ble_eq_true rfl) ?_
  intro X hY hT hX
  subst hY
  have hX : zx_ok X cX8_does RX8 4 := hX
  show zV X (zq X zrV) 4 0 [(0, .ref (zx_ad X 76)), (1, .int v1)] [] s _
  unfold f_X8_does
  refine zv_iload_n hX dX8_does_0 1 rfl ?_
  refine zv_bipush (v := (nI 100)) hX dX8_does_1 zi_b_100 ?_
  refine zv_irem hX dX8_does_3 (by decide) ?_
  refine zv_bipush (v := (nI 10)) hX dX8_does_4 zi_b_10 ?_
  refine zv_idiv hX dX8_does_6 (by decide) ?_
  refine zv_istB_n (lw := fun x1 => [(2, .int x1), (0, .ref (zx_ad X 76)), (1, .int v1)]) hX dX8_does_7 (by decide) (fun _ => rfl) (fun x1 => ?_)
  refine zv_iload_n hX dX8_does_8 2 rfl ?_
  refine zv_bipush (v := (nI 10)) hX dX8_does_9 zi_b_10 ?_
  refine zv_irem hX dX8_does_11 (by decide) ?_
  refine zv_istB_n (lw := fun x2 => [(3, .int x2), (2, .int x1), (0, .ref (zx_ad X 76)), (1, .int v1)]) hX dX8_does_12 (by decide) (fun _ => rfl) (fun x2 => ?_)
  refine zv_iload_n hX dX8_does_13 3 rfl ?_
  refine zv_bipush (v := (nI 100)) hX dX8_does_14 zi_b_100 ?_
  refine zv_icmp_ge (tgt := 29) hX dX8_does_16 rfl ?_ ?_
  · refine zv_iload_n hX dX8_does_29 3 rfl ?_
    refine zv_sipush (v := (nI 200)) hX dX8_does_30 zi_s_200 ?_
    refine zv_icmp_ge (tgt := 45) hX dX8_does_33 rfl ?_ ?_
    · refine zv_iload_n hX dX8_does_45 3 rfl ?_
      refine zv_sipush (v := (nI 300)) hX dX8_does_46 zi_s_300 ?_
      refine zv_icmp_ge (tgt := 70) hX dX8_does_49 rfl ?_ ?_
      · refine zv_aload_n hX dX8_does_70 2 rfl ?_
        refine zv_geta hX wf_X8_13 wc_8 zd_76 zj_76_1 c9_8 zr_76_1 (by decide) dX8_does_71 ?_
        refine zv_bipush (v := (nI 36)) hX dX8_does_74 zi_b_36 ?_
        refine zv_iload_n hX dX8_does_76 1 rfl ?_
        refine zv_iadd hX dX8_does_77 ?_
        refine zv_iload_n hX dX8_does_78 0 rfl ?_
        refine zv_iast hX dX8_does_79 (fun s3 => ?_)
        exact zv_sub [] rfl (b_X8_does_80 hX hT  s3)
      · refine zv_aload_n hX dX8_does_52 2 rfl ?_
        refine zv_geta hX wf_X8_13 wc_8 zd_76 zj_76_1 c9_8 zr_76_1 (by decide) dX8_does_53 ?_
        refine zv_bipush (v := (nI 29)) hX dX8_does_56 zi_b_29 ?_
        refine zv_iload_n hX dX8_does_58 1 rfl ?_
        refine zv_iadd hX dX8_does_59 ?_
        refine zv_dup2 hX dX8_does_60 rfl rfl ?_
        refine zv_iald hX dX8_does_61 (fun x4 => ?_)
        refine zv_iconst (v := (1 : Int32)) hX dX8_does_62 zi_i_1 ?_
        refine zv_iload_n hX dX8_does_63 0 rfl ?_
        refine zv_ishl hX dX8_does_64 ?_
        refine zv_ixor hX dX8_does_65 ?_
        refine zv_iast hX dX8_does_66 (fun s5 => ?_)
        refine zv_goto (tgt := 80) hX dX8_does_67 rfl ?_
        exact zv_sub [] rfl (b_X8_does_80 hX hT  s5)
    · refine zv_aload_n hX dX8_does_36 2 rfl ?_
      refine zv_iload_n hX dX8_does_37 0 rfl ?_
      refine zv_cVI [.int x2] (rest := []) hX hT.2.2.2.2 (c_X8_leaves (zx_Y X) x2 s) wv_X8_leaves c9_8 zd_76 wm_X8_298 rfl (Nat.le_of_ble_eq_true rfl) (Nat.le_of_ble_eq_true rfl) rfl (Nat.le_of_ble_eq_true rfl) dX8_does_38 (fun r6 s7 => ?_)
      refine zv_pop hX dX8_does_41 rfl ?_
      refine zv_goto (tgt := 80) hX dX8_does_42 rfl ?_
      exact zv_sub [] rfl (b_X8_does_80 hX hT  s7)
  · refine zv_aload_n hX dX8_does_19 2 rfl ?_
    refine zv_iload_n hX dX8_does_20 1 rfl ?_
    refine zv_iload_n hX dX8_does_21 0 rfl ?_
    refine zv_cVI [.int x1, .int x2] (rest := []) hX hT.2.2.2.2 (c_X8_engages (zx_Y X) x1 x2 s) wv_X8_engages c9_8 zd_76 wm_X8_310 rfl (Nat.le_of_ble_eq_true rfl) (Nat.le_of_ble_eq_true rfl) rfl (Nat.le_of_ble_eq_true rfl) dX8_does_22 (fun r8 s9 => ?_)
    refine zv_pop hX dX8_does_25 rfl ?_
    refine zv_goto (tgt := 80) hX dX8_does_26 rfl ?_
    exact zv_sub [] rfl (b_X8_does_80 hX hT  s9)
theorem dX8_draw_0 : decode cX8_draw 0 = .ok (.aload_n 0, 1) := by decide +kernel
theorem dX8_draw_1 : decode cX8_draw 1 = .ok (.ldc_w 364, 3) := by decide +kernel
theorem dX8_draw_4 : decode cX8_draw 4 = .ok (.aload_n 0, 1) := by decide +kernel
theorem dX8_draw_5 : decode cX8_draw 5 = .ok (.getfield 365, 3) := by decide +kernel
theorem dX8_draw_8 : decode cX8_draw 8 = .ok (.imul, 1) := by decide +kernel
theorem dX8_draw_9 : decode cX8_draw 9 = .ok (.sipush 12345, 3) := by decide +kernel
theorem dX8_draw_12 : decode cX8_draw 12 = .ok (.iadd, 1) := by decide +kernel
theorem dX8_draw_13 : decode cX8_draw 13 = .ok (.putfield 365, 3) := by decide +kernel
theorem dX8_draw_16 : decode cX8_draw 16 = .ok (.aload_n 0, 1) := by decide +kernel
theorem dX8_draw_17 : decode cX8_draw 17 = .ok (.getfield 365, 3) := by decide +kernel
theorem dX8_draw_20 : decode cX8_draw 20 = .ok (.bipush 16, 2) := by decide +kernel
theorem dX8_draw_22 : decode cX8_draw 22 = .ok (.iushr, 1) := by decide +kernel
theorem dX8_draw_23 : decode cX8_draw 23 = .ok (.iload_n 1, 1) := by decide +kernel
theorem dX8_draw_24 : decode cX8_draw 24 = .ok (.irem, 1) := by decide +kernel
theorem dX8_draw_25 : decode cX8_draw 25 = .ok (.ireturn, 1) := by decide +kernel
def f_X8_draw (v1 : Int32) (s : zS) : Option (Int32 × zS) :=
  zb (zs_i s 76 29 (((1103515245 : Int32) * (s.1 76 29)) + (nI 12345))) fun s1 =>
  if v1 = 0 then none else
  some (zo_rem (zo_ush (s1.1 76 29) (nI 16)) v1, s1)
set_option maxRecDepth 20000 in
theorem c_X8_draw (Y : zG) (v1 : Int32) (s : zS) : zM Y yX8_draw cX8_draw 2 (some .int) (zR 0 0) [.ref (zy_a Y 76), .int v1] s zrI (f_X8_draw v1 s) := by
  refine zm_start (by decide +kernel) (Nat.le_of_ble_eq_true rfl) ?_
  intro X hY hT hX
  subst hY
  have hX : zx_ok X cX8_draw RX8 2 := hX
  show zV X (zq X zrI) 2 0 [(0, .ref (zx_ad X 76)), (1, .int v1)] [] s _
  unfold f_X8_draw
  refine zv_aload_n hX dX8_draw_0 0 rfl ?_
  refine zv_ldcw hX wn_X8_364 dX8_draw_1 ?_
  refine zv_aload_n hX dX8_draw_4 0 rfl ?_
  refine zv_geti hX wf_X8_365 wc_8 zd_76 zj_76_29 c9_8 zr_76_29 dX8_draw_5 ?_
  refine zv_imul hX dX8_draw_8 ?_
  refine zv_sipush (v := (nI 12345)) hX dX8_draw_9 zi_s_12345 ?_
  refine zv_iadd hX dX8_draw_12 ?_
  refine zv_puti hX wf_X8_365 wc_8 wk_8_29 zd_76 zj_76_29 c9_8 zr_76_29 dX8_draw_13 (fun s1 => ?_)
  refine zv_aload_n hX dX8_draw_16 0 rfl ?_
  refine zv_geti hX wf_X8_365 wc_8 zd_76 zj_76_29 c9_8 zr_76_29 dX8_draw_17 ?_
  refine zv_bipush (v := (nI 16)) hX dX8_draw_20 zi_b_16 ?_
  refine zv_iushr hX dX8_draw_22 ?_
  refine zv_iload_n hX dX8_draw_23 1 rfl ?_
  refine zv_iremB hX dX8_draw_24 ?_
  exact zv_ireti hX hT dX8_draw_25
