theorem dX5_withSignsSo_0 : decode cX5_withSignsSo 0 = .ok (.iconst 0, 1) := by decide +kernel
theorem dX5_withSignsSo_1 : decode cX5_withSignsSo 1 = .ok (.istore_n 3, 1) := by decide +kernel
theorem dX5_withSignsSo_2 : decode cX5_withSignsSo 2 = .ok (.iconst 0, 1) := by decide +kernel
theorem dX5_withSignsSo_3 : decode cX5_withSignsSo 3 = .ok (.istore 4, 2) := by decide +kernel
theorem dX5_withSignsSo_5 : decode cX5_withSignsSo 5 = .ok (.iload 4, 2) := by decide +kernel
theorem dX5_withSignsSo_7 : decode cX5_withSignsSo 7 = .ok (.aload_n 0, 1) := by decide +kernel
theorem dX5_withSignsSo_8 : decode cX5_withSignsSo 8 = .ok (.getfield 42, 3) := by decide +kernel
theorem dX5_withSignsSo_11 : decode cX5_withSignsSo 11 = .ok (.if_icmp .ge 41, 3) := by decide +kernel
theorem dX5_withSignsSo_14 : decode cX5_withSignsSo 14 = .ok (.aload_n 0, 1) := by decide +kernel
theorem dX5_withSignsSo_15 : decode cX5_withSignsSo 15 = .ok (.getfield 9, 3) := by decide +kernel
theorem dX5_withSignsSo_18 : decode cX5_withSignsSo 18 = .ok (.iload 4, 2) := by decide +kernel
theorem dX5_withSignsSo_20 : decode cX5_withSignsSo 20 = .ok (.iaload, 1) := by decide +kernel
theorem dX5_withSignsSo_21 : decode cX5_withSignsSo 21 = .ok (.iload_n 1, 1) := by decide +kernel
theorem dX5_withSignsSo_22 : decode cX5_withSignsSo 22 = .ok (.iand, 1) := by decide +kernel
theorem dX5_withSignsSo_23 : decode cX5_withSignsSo 23 = .ok (.iload_n 1, 1) := by decide +kernel
theorem dX5_withSignsSo_24 : decode cX5_withSignsSo 24 = .ok (.if_icmp .ne 22, 3) := by decide +kernel
theorem dX5_withSignsSo_27 : decode cX5_withSignsSo 27 = .ok (.aload_n 0, 1) := by decide +kernel
theorem dX5_withSignsSo_28 : decode cX5_withSignsSo 28 = .ok (.getfield 9, 3) := by decide +kernel
theorem dX5_withSignsSo_31 : decode cX5_withSignsSo 31 = .ok (.iload 4, 2) := by decide +kernel
theorem dX5_withSignsSo_33 : decode cX5_withSignsSo 33 = .ok (.iaload, 1) := by decide +kernel
theorem dX5_withSignsSo_34 : decode cX5_withSignsSo 34 = .ok (.iload_n 2, 1) := by decide +kernel
theorem dX5_withSignsSo_35 : decode cX5_withSignsSo 35 = .ok (.iand, 1) := by decide +kernel
theorem dX5_withSignsSo_36 : decode cX5_withSignsSo 36 = .ok (.ifCond .ne 10, 3) := by decide +kernel
theorem dX5_withSignsSo_39 : decode cX5_withSignsSo 39 = .ok (.iload_n 3, 1) := by decide +kernel
theorem dX5_withSignsSo_40 : decode cX5_withSignsSo 40 = .ok (.iconst 1, 1) := by decide +kernel
theorem dX5_withSignsSo_41 : decode cX5_withSignsSo 41 = .ok (.iload 4, 2) := by decide +kernel
theorem dX5_withSignsSo_43 : decode cX5_withSignsSo 43 = .ok (.ishl, 1) := by decide +kernel
theorem dX5_withSignsSo_44 : decode cX5_withSignsSo 44 = .ok (.ior, 1) := by decide +kernel
theorem dX5_withSignsSo_45 : decode cX5_withSignsSo 45 = .ok (.istore_n 3, 1) := by decide +kernel
theorem dX5_withSignsSo_46 : decode cX5_withSignsSo 46 = .ok (.iinc 4 1, 3) := by decide +kernel
theorem dX5_withSignsSo_49 : decode cX5_withSignsSo 49 = .ok (.goto (-44), 3) := by decide +kernel
theorem dX5_withSignsSo_52 : decode cX5_withSignsSo 52 = .ok (.iload_n 3, 1) := by decide +kernel
theorem dX5_withSignsSo_53 : decode cX5_withSignsSo 53 = .ok (.ireturn, 1) := by decide +kernel
def f_X5_withSignsSo_3_46 (kb_5 : Int32 → Int32 → Int32 → Int32 → zS → Option (Int32 × zS)) (v1 : Int32) (v2 : Int32) (v3 : Int32) (v4 : Int32) (s : zS) : Option (Int32 × zS) :=
  zb (v4 + (1 : Int32)) fun x1 =>
  kb_5 v1 v2 v3 x1 s
set_option maxRecDepth 20000 in
theorem b_X5_withSignsSo_3_46 {X : zX} {kb_5 : Int32 → Int32 → Int32 → Int32 → zS → Option (Int32 × zS)} (hX : zx_ok X cX5_withSignsSo RX5 5) (hT : zx_rt X (some .int) (zR 0 0)) (hk_5 : ∀ (v1 : Int32) (v2 : Int32) (v3 : Int32) (v4 : Int32) (s : zS), zV X (zq X zrI) 5 5 [(0, .ref (zx_ad X 3)), (1, .int v1), (2, .int v2), (3, .int v3), (4, .int v4)] [] s (kb_5 v1 v2 v3 v4 s)) : ∀ (v1 : Int32) (v2 : Int32) (v3 : Int32) (v4 : Int32) (s : zS), zV X (zq X zrI) 5 46 [(0, .ref (zx_ad X 3)), (1, .int v1), (2, .int v2), (3, .int v3), (4, .int v4)] [] s (f_X5_withSignsSo_3_46 kb_5 v1 v2 v3 v4 s) := by
  intro v1 v2 v3 v4 s
  unfold f_X5_withSignsSo_3_46
  refine zv_iincB (lw := fun x1 => [(4, .int x1), (0, .ref (zx_ad X 3)), (1, .int v1), (2, .int v2), (3, .int v3)]) hX dX5_withSignsSo_46 4 rfl zi_i_1 (by decide) (fun _ => rfl) (fun x1 => ?_)
  refine zv_goto (tgt := 5) hX dX5_withSignsSo_49 rfl ?_
  exact zv_sub [1, 2, 3, 4, 0] rfl (hk_5 v1 v2 v3 x1 s)
def f_X5_withSignsSo_3_5 : Nat → Int32 → Int32 → Int32 → Int32 → zS → Option (Int32 × zS)
  | 0, _, _, _, _, _ => none
  | n + 1, v1, v2, v3, v4, s =>
    if (s.1 3 0) ≤ v4 then
    (some (v3, s))
    else
    (zr_i s 4 v4).bind fun x2 =>
    if ¬ (x2 &&& v1) = v1 then
    (f_X5_withSignsSo_3_46 (f_X5_withSignsSo_3_5 n) v1 v2 v3 v4 s)
    else
    (zr_i s 4 v4).bind fun x3 =>
    if ¬ (x3 &&& v2) = 0 then
    (f_X5_withSignsSo_3_46 (f_X5_withSignsSo_3_5 n) v1 v2 v3 v4 s)
    else
    zb (v3 ||| (zo_shl (1 : Int32) v4)) fun x4 =>
    f_X5_withSignsSo_3_46 (f_X5_withSignsSo_3_5 n) v1 v2 x4 v4 s
set_option maxRecDepth 20000 in
theorem b_X5_withSignsSo_3_5 {X : zX} (hX : zx_ok X cX5_withSignsSo RX5 5) (hT : zx_rt X (some .int) (zR 0 0)) : ∀ (n : Nat) (v1 : Int32) (v2 : Int32) (v3 : Int32) (v4 : Int32) (s : zS), zV X (zq X zrI) 5 5 [(0, .ref (zx_ad X 3)), (1, .int v1), (2, .int v2), (3, .int v3), (4, .int v4)] [] s (f_X5_withSignsSo_3_5 n v1 v2 v3 v4 s) := by
  intro n
  induction n with
  | zero => intro v1 v2 v3 v4 s; exact zv_none
  | succ n ih =>
    intro v1 v2 v3 v4 s
    rw [f_X5_withSignsSo_3_5]
    refine zv_iload hX dX5_withSignsSo_5 4 rfl ?_
    refine zv_aload_n hX dX5_withSignsSo_7 0 rfl ?_
    refine zv_geti hX wf_X5_42 wc_5 zd_3 zj_3_0 c9_5 zr_3_0 dX5_withSignsSo_8 ?_
    refine zv_icmp_ge (tgt := 52) hX dX5_withSignsSo_11 rfl ?_ ?_
    · refine zv_iload_n hX dX5_withSignsSo_52 3 rfl ?_
      exact zv_ireti hX hT dX5_withSignsSo_53
    · refine zv_aload_n hX dX5_withSignsSo_14 0 rfl ?_
      refine zv_geta hX wf_X5_9 wc_5 zd_3 zj_3_2 c9_5 zr_3_2 (by decide) dX5_withSignsSo_15 ?_
      refine zv_iload hX dX5_withSignsSo_18 4 rfl ?_
      refine zv_iald hX dX5_withSignsSo_20 (fun x2 => ?_)
      refine zv_iload_n hX dX5_withSignsSo_21 1 rfl ?_
      refine zv_iand hX dX5_withSignsSo_22 ?_
      refine zv_iload_n hX dX5_withSignsSo_23 1 rfl ?_
      refine zv_icmp_ne (tgt := 46) hX dX5_withSignsSo_24 rfl ?_ ?_
      · exact b_X5_withSignsSo_3_46 hX hT ih v1 v2 v3 v4 s
      · refine zv_aload_n hX dX5_withSignsSo_27 0 rfl ?_
        refine zv_geta hX wf_X5_9 wc_5 zd_3 zj_3_2 c9_5 zr_3_2 (by decide) dX5_withSignsSo_28 ?_
        refine zv_iload hX dX5_withSignsSo_31 4 rfl ?_
        refine zv_iald hX dX5_withSignsSo_33 (fun x3 => ?_)
        refine zv_iload_n hX dX5_withSignsSo_34 2 rfl ?_
        refine zv_iand hX dX5_withSignsSo_35 ?_
        refine zv_if_ne (tgt := 46) hX dX5_withSignsSo_36 rfl ?_ ?_
        · exact b_X5_withSignsSo_3_46 hX hT ih v1 v2 v3 v4 s
        · refine zv_iload_n hX dX5_withSignsSo_39 3 rfl ?_
          refine zv_iconst (v := (1 : Int32)) hX dX5_withSignsSo_40 zi_i_1 ?_
          refine zv_iload hX dX5_withSignsSo_41 4 rfl ?_
          refine zv_ishl hX dX5_withSignsSo_43 ?_
          refine zv_ior hX dX5_withSignsSo_44 ?_
          refine zv_istB_n (lw := fun x4 => [(3, .int x4), (0, .ref (zx_ad X 3)), (1, .int v1), (2, .int v2), (4, .int v4)]) hX dX5_withSignsSo_45 (by decide) (fun _ => rfl) (fun x4 => ?_)
          exact zv_sub [1, 2, 3, 0, 4] rfl (b_X5_withSignsSo_3_46 hX hT ih v1 v2 x4 v4 s)
def f_X5_withSignsSo_3 (v1 : Int32) (v2 : Int32) (s : zS) : Option (Int32 × zS) :=
  f_X5_withSignsSo_3_5 zFU v1 v2 (0 : Int32) (0 : Int32) s
set_option maxRecDepth 20000 in
theorem c_X5_withSignsSo_3 (Y : zG) (v1 : Int32) (v2 : Int32) (s : zS) : zM Y yX5_withSignsSo cX5_withSignsSo 5 (some .int) (zR 0 0) [.ref (zy_a Y 3), .int v1, .int v2] s zrI (f_X5_withSignsSo_3 v1 v2 s) := by
  refine zm_start (by decide +kernel) (Nat.le_of_ble_eq_true rfl) ?_
  intro X hY hT hX
  subst hY
  have hX : zx_ok X cX5_withSignsSo RX5 5 := hX
  show zV X (zq X zrI) 5 0 [(0, .ref (zx_ad X 3)), (1, .int v1), (2, .int v2)] [] s _
  unfold f_X5_withSignsSo_3
  refine zv_iconst (v := (0 : Int32)) hX dX5_withSignsSo_0 zi_i_0 ?_
  refine zv_istore_n (lv' := [(3, .int (0 : Int32)), (0, .ref (zx_ad X 3)), (1, .int v1), (2, .int v2)]) hX dX5_withSignsSo_1 (by decide) rfl ?_
  refine zv_iconst (v := (0 : Int32)) hX dX5_withSignsSo_2 zi_i_0 ?_
  refine zv_istore (lv' := [(4, .int (0 : Int32)), (3, .int (0 : Int32)), (0, .ref (zx_ad X 3)), (1, .int v1), (2, .int v2)]) hX dX5_withSignsSo_3 (by decide) rfl ?_
  exact zv_sub [2, 3, 4, 1, 0] rfl (b_X5_withSignsSo_3_5 hX hT zFU v1 v2 (0 : Int32) (0 : Int32) s)
theorem dX6_cutTo_0 : decode cX6_cutTo 0 = .ok (.iload_n 0, 1) := by decide +kernel
theorem dX6_cutTo_1 : decode cX6_cutTo 1 = .ok (.tableswitch 41 0 2 #[27, 32, 37], 27) := by decide +kernel
theorem dX6_cutTo_28 : decode cX6_cutTo 28 = .ok (.lload_n 1, 1) := by decide +kernel
theorem dX6_cutTo_29 : decode cX6_cutTo 29 = .ok (.l2i, 1) := by decide +kernel
theorem dX6_cutTo_30 : decode cX6_cutTo 30 = .ok (.i2b, 1) := by decide +kernel
theorem dX6_cutTo_31 : decode cX6_cutTo 31 = .ok (.i2l, 1) := by decide +kernel
theorem dX6_cutTo_32 : decode cX6_cutTo 32 = .ok (.lreturn, 1) := by decide +kernel
theorem dX6_cutTo_33 : decode cX6_cutTo 33 = .ok (.lload_n 1, 1) := by decide +kernel
theorem dX6_cutTo_34 : decode cX6_cutTo 34 = .ok (.l2i, 1) := by decide +kernel
theorem dX6_cutTo_35 : decode cX6_cutTo 35 = .ok (.i2s, 1) := by decide +kernel
theorem dX6_cutTo_36 : decode cX6_cutTo 36 = .ok (.i2l, 1) := by decide +kernel
theorem dX6_cutTo_37 : decode cX6_cutTo 37 = .ok (.lreturn, 1) := by decide +kernel
theorem dX6_cutTo_38 : decode cX6_cutTo 38 = .ok (.lload_n 1, 1) := by decide +kernel
theorem dX6_cutTo_39 : decode cX6_cutTo 39 = .ok (.l2i, 1) := by decide +kernel
theorem dX6_cutTo_40 : decode cX6_cutTo 40 = .ok (.i2l, 1) := by decide +kernel
theorem dX6_cutTo_41 : decode cX6_cutTo 41 = .ok (.lreturn, 1) := by decide +kernel
theorem dX6_cutTo_42 : decode cX6_cutTo 42 = .ok (.lload_n 1, 1) := by decide +kernel
theorem dX6_cutTo_43 : decode cX6_cutTo 43 = .ok (.lreturn, 1) := by decide +kernel
def f_X6_cutTo (v0 : Int32) (v1 : Int64) (s : zS) : Option (Int64 × zS) :=
  if v0 = (0 : Int32) then
  (some (((v1.toInt32).toInt8.toInt32).toInt64, s))
  else if v0 = (1 : Int32) then
  (some (((v1.toInt32).toInt16.toInt32).toInt64, s))
  else if v0 = (nI 2) then
  (some ((v1.toInt32).toInt64, s))
  else 
  some (v1, s)
set_option maxRecDepth 20000 in
theorem c_X6_cutTo (Y : zG) (v0 : Int32) (v1 : Int64) (s : zS) : zM Y yX6_cutTo cX6_cutTo 3 (some .long) (zR 0 0) [.int v0, .long v1] s zrJ (f_X6_cutTo v0 v1 s) := by
  refine zm_start (by decide +kernel) (Nat.le_of_ble_eq_true rfl) ?_
  intro X hY hT hX
  subst hY
  have hX : zx_ok X cX6_cutTo RX6 3 := hX
  show zV X (zq X zrJ) 3 0 [(0, .int v0), (1, .long v1)] [] s _
  unfold f_X6_cutTo
  refine zv_iload_n hX dX6_cutTo_0 0 rfl ?_
  refine zv_ite (fun h1_0 => ?_) (fun h1_0 => ?_)
  · refine zv_tabI (tgt := 28) hX dX6_cutTo_1 (0 : Int32) h1_0 (by decide) (by decide) rfl rfl ?_
    refine zv_lload_n hX dX6_cutTo_28 1 rfl ?_
    refine zv_l2i hX dX6_cutTo_29 ?_
    refine zv_i2b hX dX6_cutTo_30 ?_
    refine zv_i2l hX dX6_cutTo_31 ?_
    exact zv_lret hX hT dX6_cutTo_32
  refine zv_ite (fun h1_1 => ?_) (fun h1_1 => ?_)
  · refine zv_tabI (tgt := 33) hX dX6_cutTo_1 (1 : Int32) h1_1 (by decide) (by decide) rfl rfl ?_
    refine zv_lload_n hX dX6_cutTo_33 1 rfl ?_
    refine zv_l2i hX dX6_cutTo_34 ?_
    refine zv_i2s hX dX6_cutTo_35 ?_
    refine zv_i2l hX dX6_cutTo_36 ?_
    exact zv_lret hX hT dX6_cutTo_37
  refine zv_ite (fun h1_2 => ?_) (fun h1_2 => ?_)
  · refine zv_tabI (tgt := 38) hX dX6_cutTo_1 (nI 2) h1_2 (by decide) (by decide) rfl rfl ?_
    refine zv_lload_n hX dX6_cutTo_38 1 rfl ?_
    refine zv_l2i hX dX6_cutTo_39 ?_
    refine zv_i2l hX dX6_cutTo_40 ?_
    exact zv_lret hX hT dX6_cutTo_41
  refine zv_tabO (tgt := 42) hX dX6_cutTo_1 (zt_out 0 3 (by decide) (fun j hj => by match j, hj with | 0, _ => exact h1_0 | 1, _ => exact h1_1 | 2, _ => exact h1_2)) rfl ?_
  refine zv_lload_n hX dX6_cutTo_42 1 rfl ?_
  exact zv_lret hX hT dX6_cutTo_43
theorem dX6_put_0 : decode cX6_put 0 = .ok (.iload_n 2, 1) := by decide +kernel
theorem dX6_put_1 : decode cX6_put 1 = .ok (.ifCond .lt 12, 3) := by decide +kernel
theorem dX6_put_4 : decode cX6_put 4 = .ok (.iload_n 2, 1) := by decide +kernel
theorem dX6_put_5 : decode cX6_put 5 = .ok (.aload_n 0, 1) := by decide +kernel
theorem dX6_put_6 : decode cX6_put 6 = .ok (.iload_n 1, 1) := by decide +kernel
theorem dX6_put_7 : decode cX6_put 7 = .ok (.invokevirtual 29, 3) := by decide +kernel
theorem dX6_put_10 : decode cX6_put 10 = .ok (.if_icmp .lt 7, 3) := by decide +kernel
theorem dX6_put_13 : decode cX6_put 13 = .ok (.ldc2_w 33, 3) := by decide +kernel
theorem dX6_put_16 : decode cX6_put 16 = .ok (.lreturn, 1) := by decide +kernel
theorem dX6_put_17 : decode cX6_put 17 = .ok (.aload_n 0, 1) := by decide +kernel
theorem dX6_put_18 : decode cX6_put 18 = .ok (.getfield 9, 3) := by decide +kernel
theorem dX6_put_21 : decode cX6_put 21 = .ok (.iload_n 1, 1) := by decide +kernel
theorem dX6_put_22 : decode cX6_put 22 = .ok (.iaload, 1) := by decide +kernel
theorem dX6_put_23 : decode cX6_put 23 = .ok (.lload_n 3, 1) := by decide +kernel
theorem dX6_put_24 : decode cX6_put 24 = .ok (.invokestatic 35, 3) := by decide +kernel
theorem dX6_put_27 : decode cX6_put 27 = .ok (.lstore 5, 2) := by decide +kernel
theorem dX6_put_29 : decode cX6_put 29 = .ok (.aload_n 0, 1) := by decide +kernel
theorem dX6_put_30 : decode cX6_put 30 = .ok (.getfield 18, 3) := by decide +kernel
theorem dX6_put_33 : decode cX6_put 33 = .ok (.iload_n 1, 1) := by decide +kernel
theorem dX6_put_34 : decode cX6_put 34 = .ok (.bipush 40, 2) := by decide +kernel
theorem dX6_put_36 : decode cX6_put 36 = .ok (.imul, 1) := by decide +kernel
theorem dX6_put_37 : decode cX6_put 37 = .ok (.iload_n 2, 1) := by decide +kernel
theorem dX6_put_38 : decode cX6_put 38 = .ok (.iadd, 1) := by decide +kernel
theorem dX6_put_39 : decode cX6_put 39 = .ok (.lload 5, 2) := by decide +kernel
theorem dX6_put_41 : decode cX6_put 41 = .ok (.lastore, 1) := by decide +kernel
theorem dX6_put_42 : decode cX6_put 42 = .ok (.lload 5, 2) := by decide +kernel
theorem dX6_put_44 : decode cX6_put 44 = .ok (.lreturn, 1) := by decide +kernel
def f_X6_put_13  (s : zS) : Option (Int64 × zS) :=
  some ((-7 : Int64), s)
set_option maxRecDepth 20000 in
theorem b_X6_put_13 {X : zX} (hX : zx_ok X cX6_put RX6 7) (hT : zx_rt X (some .long) (zR 3 63)) : ∀  (s : zS), zV X (zq X zrJ) 7 13 [] [] s (f_X6_put_13  s) := by
  intro  s
  unfold f_X6_put_13
  refine zv_ldc2 hX wn_X6_33 dX6_put_13 ?_
  exact zv_lret hX hT dX6_put_16
def f_X6_put (v1 : Int32) (v2 : Int32) (v3 : Int64) (s : zS) : Option (Int64 × zS) :=
  if v2 < 0 then
  (f_X6_put_13 s)
  else
  zbd (f_X6_sizeOf v1 s) fun r1 s2 =>
  if v2 < r1 then
  ((zr_i s2 69 v1).bind fun x3 =>
  zbd (f_X6_cutTo x3 v3 s2) fun r4 s5 =>
  (zw_l s5 71 ((v1 * (nI 40)) + v2) r4).bind fun s6 =>
  some (r4, s6))
  else
  f_X6_put_13 s2
set_option maxRecDepth 20000 in
theorem c_X6_put (Y : zG) (v1 : Int32) (v2 : Int32) (v3 : Int64) (s : zS) : zM Y yX6_put cX6_put 7 (some .long) (zR 3 63) [.ref (zy_a Y 68), .int v1, .int v2, .long v3] s zrJ (f_X6_put v1 v2 v3 s) := by
  refine zm_start (by decide +kernel) (Nat.le_of_ble_eq_true rfl) ?_
  intro X hY hT hX
  subst hY
  have hX : zx_ok X cX6_put RX6 7 := hX
  show zV X (zq X zrJ) 7 0 [(0, .ref (zx_ad X 68)), (1, .int v1), (2, .int v2), (3, .long v3)] [] s _
  unfold f_X6_put
  refine zv_iload_n hX dX6_put_0 2 rfl ?_
  refine zv_if_lt (tgt := 13) hX dX6_put_1 rfl ?_ ?_
  · exact zv_sub [] rfl (b_X6_put_13 hX hT  s)
  · refine zv_iload_n hX dX6_put_4 2 rfl ?_
    refine zv_aload_n hX dX6_put_5 0 rfl ?_
    refine zv_iload_n hX dX6_put_6 1 rfl ?_
    refine zv_cVI [.int v1] (rest := [.int v2]) hX hT.2.2.2.2 (c_X6_sizeOf (zx_Y X) v1 s) wv_X6_sizeOf c9_6 zd_68 wm_X6_29 rfl (Nat.le_of_ble_eq_true rfl) (Nat.le_of_ble_eq_true rfl) rfl (Nat.le_of_ble_eq_true rfl) dX6_put_7 (fun r1 s2 => ?_)
    refine zv_icmp_lt (tgt := 17) hX dX6_put_10 rfl ?_ ?_
    · refine zv_aload_n hX dX6_put_17 0 rfl ?_
      refine zv_geta hX wf_X6_9 wc_6 zd_68 zj_68_0 c9_6 zr_68_0 (by decide) dX6_put_18 ?_
      refine zv_iload_n hX dX6_put_21 1 rfl ?_
      refine zv_iald hX dX6_put_22 (fun x3 => ?_)
      refine zv_lload_n hX dX6_put_23 3 rfl ?_
      refine zv_cSJ [.int x3, .long v3] (rest := []) hX hT.2.2.2.2 (c_X6_cutTo (zx_Y X) x3 v3 s2) wv_X6_cutTo wm_X6_35 rfl (Nat.le_of_ble_eq_true rfl) (Nat.le_of_ble_eq_true rfl) rfl (Nat.le_of_ble_eq_true rfl) dX6_put_24 (fun r4 s5 => ?_)
      refine zv_lstore (lv' := [(5, .long r4), (0, .ref (zx_ad X 68)), (1, .int v1), (2, .int v2), (3, .long v3)]) hX dX6_put_27 (by decide) rfl ?_
      refine zv_aload_n hX dX6_put_29 1 rfl ?_
      refine zv_geta hX wf_X6_18 wc_6 zd_68 zj_68_2 c9_6 zr_68_2 (by decide) dX6_put_30 ?_
      refine zv_iload_n hX dX6_put_33 2 rfl ?_
      refine zv_bipush (v := (nI 40)) hX dX6_put_34 zi_b_40 ?_
      refine zv_imul hX dX6_put_36 ?_
      refine zv_iload_n hX dX6_put_37 3 rfl ?_
      refine zv_iadd hX dX6_put_38 ?_
      refine zv_lload hX dX6_put_39 0 rfl ?_
      refine zv_last hX dX6_put_41 (fun s6 => ?_)
      refine zv_lload hX dX6_put_42 0 rfl ?_
      exact zv_lret hX hT dX6_put_44
    · exact zv_sub [] rfl (b_X6_put_13 hX hT  s2)
theorem dX6_renew_0 : decode cX6_renew 0 = .ok (.aload_n 0, 1) := by decide +kernel
theorem dX6_renew_1 : decode cX6_renew 1 = .ok (.iload_n 1, 1) := by decide +kernel
theorem dX6_renew_2 : decode cX6_renew 2 = .ok (.invokevirtual 22, 3) := by decide +kernel
theorem dX6_renew_5 : decode cX6_renew 5 = .ok (.ifCond .ne 4, 3) := by decide +kernel
theorem dX6_renew_8 : decode cX6_renew 8 = .ok (.return_, 1) := by decide +kernel
theorem dX6_renew_9 : decode cX6_renew 9 = .ok (.aload_n 0, 1) := by decide +kernel
theorem dX6_renew_10 : decode cX6_renew 10 = .ok (.getfield 9, 3) := by decide +kernel
theorem dX6_renew_13 : decode cX6_renew 13 = .ok (.iload_n 1, 1) := by decide +kernel
theorem dX6_renew_14 : decode cX6_renew 14 = .ok (.iload_n 2, 1) := by decide +kernel
theorem dX6_renew_15 : decode cX6_renew 15 = .ok (.iastore, 1) := by decide +kernel
theorem dX6_renew_16 : decode cX6_renew 16 = .ok (.aload_n 0, 1) := by decide +kernel
theorem dX6_renew_17 : decode cX6_renew 17 = .ok (.getfield 15, 3) := by decide +kernel
theorem dX6_renew_20 : decode cX6_renew 20 = .ok (.iload_n 1, 1) := by decide +kernel
theorem dX6_renew_21 : decode cX6_renew 21 = .ok (.iload_n 3, 1) := by decide +kernel
theorem dX6_renew_22 : decode cX6_renew 22 = .ok (.iastore, 1) := by decide +kernel
theorem dX6_renew_23 : decode cX6_renew 23 = .ok (.iconst 0, 1) := by decide +kernel
theorem dX6_renew_24 : decode cX6_renew 24 = .ok (.istore 4, 2) := by decide +kernel
theorem dX6_renew_26 : decode cX6_renew 26 = .ok (.iload 4, 2) := by decide +kernel
theorem dX6_renew_28 : decode cX6_renew 28 = .ok (.bipush 40, 2) := by decide +kernel
theorem dX6_renew_30 : decode cX6_renew 30 = .ok (.if_icmp .ge 22, 3) := by decide +kernel
theorem dX6_renew_33 : decode cX6_renew 33 = .ok (.aload_n 0, 1) := by decide +kernel
theorem dX6_renew_34 : decode cX6_renew 34 = .ok (.getfield 18, 3) := by decide +kernel
theorem dX6_renew_37 : decode cX6_renew 37 = .ok (.iload_n 1, 1) := by decide +kernel
theorem dX6_renew_38 : decode cX6_renew 38 = .ok (.bipush 40, 2) := by decide +kernel
theorem dX6_renew_40 : decode cX6_renew 40 = .ok (.imul, 1) := by decide +kernel
theorem dX6_renew_41 : decode cX6_renew 41 = .ok (.iload 4, 2) := by decide +kernel
theorem dX6_renew_43 : decode cX6_renew 43 = .ok (.iadd, 1) := by decide +kernel
theorem dX6_renew_44 : decode cX6_renew 44 = .ok (.lconst 0, 1) := by decide +kernel
theorem dX6_renew_45 : decode cX6_renew 45 = .ok (.lastore, 1) := by decide +kernel
theorem dX6_renew_46 : decode cX6_renew 46 = .ok (.iinc 4 1, 3) := by decide +kernel
theorem dX6_renew_49 : decode cX6_renew 49 = .ok (.goto (-23), 3) := by decide +kernel
theorem dX6_renew_52 : decode cX6_renew 52 = .ok (.return_, 1) := by decide +kernel
def f_X6_renew_26 : Nat → Int32 → Int32 → zS → Option (Unit × zS)
  | 0, _, _, _ => none
  | n + 1, v1, v4, s =>
    if (nI 40) ≤ v4 then
    (some ((), s))
    else
    (zw_l s 71 ((v1 * (nI 40)) + v4) (0 : Int64)).bind fun s1 =>
    zb (v4 + (1 : Int32)) fun x2 =>
    f_X6_renew_26 n v1 x2 s1
set_option maxRecDepth 20000 in
theorem b_X6_renew_26 {X : zX} (hX : zx_ok X cX6_renew RX6 5) (hT : zx_rt X none (zR 1 21)) : ∀ (n : Nat) (v1 : Int32) (v4 : Int32) (s : zS), zV X (zq X zrV) 5 26 [(0, .ref (zx_ad X 68)), (1, .int v1), (4, .int v4)] [] s (f_X6_renew_26 n v1 v4 s) := by
  intro n
  induction n with
  | zero => intro v1 v4 s; exact zv_none
  | succ n ih =>
    intro v1 v4 s
    rw [f_X6_renew_26]
    refine zv_iload hX dX6_renew_26 2 rfl ?_
    refine zv_bipush (v := (nI 40)) hX dX6_renew_28 zi_b_40 ?_
    refine zv_icmp_ge (tgt := 52) hX dX6_renew_30 rfl ?_ ?_
    · exact zv_vret hX hT dX6_renew_52
    · refine zv_aload_n hX dX6_renew_33 0 rfl ?_
      refine zv_geta hX wf_X6_18 wc_6 zd_68 zj_68_2 c9_6 zr_68_2 (by decide) dX6_renew_34 ?_
      refine zv_iload_n hX dX6_renew_37 1 rfl ?_
      refine zv_bipush (v := (nI 40)) hX dX6_renew_38 zi_b_40 ?_
      refine zv_imul hX dX6_renew_40 ?_
      refine zv_iload hX dX6_renew_41 2 rfl ?_
      refine zv_iadd hX dX6_renew_43 ?_
      refine zv_lconst (v := (0 : Int64)) hX dX6_renew_44 zi_l_0 ?_
      refine zv_last hX dX6_renew_45 (fun s1 => ?_)
      refine zv_iincB (lw := fun x2 => [(4, .int x2), (0, .ref (zx_ad X 68)), (1, .int v1)]) hX dX6_renew_46 2 rfl zi_i_1 (by decide) (fun _ => rfl) (fun x2 => ?_)
      refine zv_goto (tgt := 26) hX dX6_renew_49 rfl ?_
      exact zv_sub [1, 2, 0] rfl (ih v1 x2 s1)
def f_X6_renew (v1 : Int32) (v2 : Int32) (v3 : Int32) (s : zS) : Option (Unit × zS) :=
  zbd (f_X6_isOne v1 s) fun r3 s4 =>
  if ¬ r3 = 0 then
  ((zw_i s4 69 v1 v2).bind fun s5 =>
  (zw_i s5 70 v1 v3).bind fun s6 =>
  f_X6_renew_26 zFU v1 (0 : Int32) s6)
  else
  some ((), s4)
set_option maxRecDepth 20000 in
theorem c_X6_renew (Y : zG) (v1 : Int32) (v2 : Int32) (v3 : Int32) (s : zS) : zM Y yX6_renew cX6_renew 5 none (zR 1 21) [.ref (zy_a Y 68), .int v1, .int v2, .int v3] s zrV (f_X6_renew v1 v2 v3 s) := by
  refine zm_start (by decide +kernel) (Nat.le_of_ble_eq_true rfl) ?_
  intro X hY hT hX
  subst hY
  have hX : zx_ok X cX6_renew RX6 5 := hX
  show zV X (zq X zrV) 5 0 [(0, .ref (zx_ad X 68)), (1, .int v1), (2, .int v2), (3, .int v3)] [] s _
  unfold f_X6_renew
  refine zv_aload_n hX dX6_renew_0 0 rfl ?_
  refine zv_iload_n hX dX6_renew_1 1 rfl ?_
  refine zv_cVI [.int v1] (rest := []) hX hT.2.2.2.2 (c_X6_isOne (zx_Y X) v1 s) wv_X6_isOne c9_6 zd_68 wm_X6_22 rfl (Nat.le_of_ble_eq_true rfl) (Nat.le_of_ble_eq_true rfl) rfl (Nat.le_of_ble_eq_true rfl) dX6_renew_2 (fun r3 s4 => ?_)
  refine zv_if_ne (tgt := 9) hX dX6_renew_5 rfl ?_ ?_
  · refine zv_aload_n hX dX6_renew_9 0 rfl ?_
    refine zv_geta hX wf_X6_9 wc_6 zd_68 zj_68_0 c9_6 zr_68_0 (by decide) dX6_renew_10 ?_
    refine zv_iload_n hX dX6_renew_13 1 rfl ?_
    refine zv_iload_n hX dX6_renew_14 2 rfl ?_
    refine zv_iast hX dX6_renew_15 (fun s5 => ?_)
    refine zv_aload_n hX dX6_renew_16 0 rfl ?_
    refine zv_geta hX wf_X6_15 wc_6 zd_68 zj_68_1 c9_6 zr_68_1 (by decide) dX6_renew_17 ?_
    refine zv_iload_n hX dX6_renew_20 1 rfl ?_
    refine zv_iload_n hX dX6_renew_21 3 rfl ?_
    refine zv_iast hX dX6_renew_22 (fun s6 => ?_)
    refine zv_iconst (v := (0 : Int32)) hX dX6_renew_23 zi_i_0 ?_
    refine zv_istore (lv' := [(4, .int (0 : Int32)), (0, .ref (zx_ad X 68)), (1, .int v1), (2, .int v2), (3, .int v3)]) hX dX6_renew_24 (by decide) rfl ?_
    exact zv_sub [1, 2, 0] rfl (b_X6_renew_26 hX hT zFU v1 (0 : Int32) s6)
  · exact zv_vret hX hT dX6_renew_8
theorem dX7_readAnswers_0 : decode cX7_readAnswers 0 = .ok (.iconst 0, 1) := by decide +kernel
theorem dX7_readAnswers_1 : decode cX7_readAnswers 1 = .ok (.istore_n 2, 1) := by decide +kernel
theorem dX7_readAnswers_2 : decode cX7_readAnswers 2 = .ok (.iload_n 2, 1) := by decide +kernel
theorem dX7_readAnswers_3 : decode cX7_readAnswers 3 = .ok (.aload_n 0, 1) := by decide +kernel
theorem dX7_readAnswers_4 : decode cX7_readAnswers 4 = .ok (.getfield 20, 3) := by decide +kernel
theorem dX7_readAnswers_7 : decode cX7_readAnswers 7 = .ok (.getfield 215, 3) := by decide +kernel
theorem dX7_readAnswers_10 : decode cX7_readAnswers 10 = .ok (.if_icmp .ge 60, 3) := by decide +kernel
theorem dX7_readAnswers_13 : decode cX7_readAnswers 13 = .ok (.aload_n 0, 1) := by decide +kernel
theorem dX7_readAnswers_14 : decode cX7_readAnswers 14 = .ok (.getfield 52, 3) := by decide +kernel
theorem dX7_readAnswers_17 : decode cX7_readAnswers 17 = .ok (.iload_n 1, 1) := by decide +kernel
theorem dX7_readAnswers_18 : decode cX7_readAnswers 18 = .ok (.iload_n 2, 1) := by decide +kernel
theorem dX7_readAnswers_19 : decode cX7_readAnswers 19 = .ok (.invokevirtual 262, 3) := by decide +kernel
theorem dX7_readAnswers_22 : decode cX7_readAnswers 22 = .ok (.lstore_n 3, 1) := by decide +kernel
theorem dX7_readAnswers_23 : decode cX7_readAnswers 23 = .ok (.lload_n 3, 1) := by decide +kernel
theorem dX7_readAnswers_24 : decode cX7_readAnswers 24 = .ok (.ldc2_w 295, 3) := by decide +kernel
theorem dX7_readAnswers_27 : decode cX7_readAnswers 27 = .ok (.lcmp, 1) := by decide +kernel
theorem dX7_readAnswers_28 : decode cX7_readAnswers 28 = .ok (.ifCond .lt 23, 3) := by decide +kernel
theorem dX7_readAnswers_31 : decode cX7_readAnswers 31 = .ok (.lload_n 3, 1) := by decide +kernel
theorem dX7_readAnswers_32 : decode cX7_readAnswers 32 = .ok (.aload_n 0, 1) := by decide +kernel
theorem dX7_readAnswers_33 : decode cX7_readAnswers 33 = .ok (.getfield 20, 3) := by decide +kernel
theorem dX7_readAnswers_36 : decode cX7_readAnswers 36 = .ok (.getfield 215, 3) := by decide +kernel
theorem dX7_readAnswers_39 : decode cX7_readAnswers 39 = .ok (.i2l, 1) := by decide +kernel
theorem dX7_readAnswers_40 : decode cX7_readAnswers 40 = .ok (.lcmp, 1) := by decide +kernel
theorem dX7_readAnswers_41 : decode cX7_readAnswers 41 = .ok (.ifCond .ge 10, 3) := by decide +kernel
theorem dX7_readAnswers_44 : decode cX7_readAnswers 44 = .ok (.lload_n 3, 1) := by decide +kernel
theorem dX7_readAnswers_45 : decode cX7_readAnswers 45 = .ok (.iload_n 2, 1) := by decide +kernel
theorem dX7_readAnswers_46 : decode cX7_readAnswers 46 = .ok (.i2l, 1) := by decide +kernel
theorem dX7_readAnswers_47 : decode cX7_readAnswers 47 = .ok (.lcmp, 1) := by decide +kernel
theorem dX7_readAnswers_48 : decode cX7_readAnswers 48 = .ok (.ifCond .ne 5, 3) := by decide +kernel
theorem dX7_readAnswers_51 : decode cX7_readAnswers 51 = .ok (.iconst 0, 1) := by decide +kernel
theorem dX7_readAnswers_52 : decode cX7_readAnswers 52 = .ok (.ireturn, 1) := by decide +kernel
theorem dX7_readAnswers_53 : decode cX7_readAnswers 53 = .ok (.aload_n 0, 1) := by decide +kernel
theorem dX7_readAnswers_54 : decode cX7_readAnswers 54 = .ok (.getfield 45, 3) := by decide +kernel
theorem dX7_readAnswers_57 : decode cX7_readAnswers 57 = .ok (.getfield 292, 3) := by decide +kernel
theorem dX7_readAnswers_60 : decode cX7_readAnswers 60 = .ok (.iload_n 2, 1) := by decide +kernel
theorem dX7_readAnswers_61 : decode cX7_readAnswers 61 = .ok (.lload_n 3, 1) := by decide +kernel
theorem dX7_readAnswers_62 : decode cX7_readAnswers 62 = .ok (.l2i, 1) := by decide +kernel
theorem dX7_readAnswers_63 : decode cX7_readAnswers 63 = .ok (.iastore, 1) := by decide +kernel
theorem dX7_readAnswers_64 : decode cX7_readAnswers 64 = .ok (.iinc 2 1, 3) := by decide +kernel
theorem dX7_readAnswers_67 : decode cX7_readAnswers 67 = .ok (.goto (-65), 3) := by decide +kernel
theorem dX7_readAnswers_70 : decode cX7_readAnswers 70 = .ok (.iconst 0, 1) := by decide +kernel
theorem dX7_readAnswers_71 : decode cX7_readAnswers 71 = .ok (.istore_n 2, 1) := by decide +kernel
theorem dX7_readAnswers_72 : decode cX7_readAnswers 72 = .ok (.iload_n 2, 1) := by decide +kernel
theorem dX7_readAnswers_73 : decode cX7_readAnswers 73 = .ok (.aload_n 0, 1) := by decide +kernel
theorem dX7_readAnswers_74 : decode cX7_readAnswers 74 = .ok (.getfield 20, 3) := by decide +kernel
theorem dX7_readAnswers_77 : decode cX7_readAnswers 77 = .ok (.getfield 215, 3) := by decide +kernel
theorem dX7_readAnswers_80 : decode cX7_readAnswers 80 = .ok (.if_icmp .ge 38, 3) := by decide +kernel
theorem dX7_readAnswers_83 : decode cX7_readAnswers 83 = .ok (.aload_n 0, 1) := by decide +kernel
theorem dX7_readAnswers_84 : decode cX7_readAnswers 84 = .ok (.getfield 45, 3) := by decide +kernel
theorem dX7_readAnswers_87 : decode cX7_readAnswers 87 = .ok (.getfield 292, 3) := by decide +kernel
theorem dX7_readAnswers_90 : decode cX7_readAnswers 90 = .ok (.iload_n 2, 1) := by decide +kernel
theorem dX7_readAnswers_91 : decode cX7_readAnswers 91 = .ok (.iaload, 1) := by decide +kernel
theorem dX7_readAnswers_92 : decode cX7_readAnswers 92 = .ok (.istore_n 3, 1) := by decide +kernel
theorem dX7_readAnswers_93 : decode cX7_readAnswers 93 = .ok (.iload_n 3, 1) := by decide +kernel
theorem dX7_readAnswers_94 : decode cX7_readAnswers 94 = .ok (.ifCond .lt 18, 3) := by decide +kernel
theorem dX7_readAnswers_97 : decode cX7_readAnswers 97 = .ok (.aload_n 0, 1) := by decide +kernel
theorem dX7_readAnswers_98 : decode cX7_readAnswers 98 = .ok (.getfield 45, 3) := by decide +kernel
theorem dX7_readAnswers_101 : decode cX7_readAnswers 101 = .ok (.getfield 292, 3) := by decide +kernel
theorem dX7_readAnswers_104 : decode cX7_readAnswers 104 = .ok (.iload_n 3, 1) := by decide +kernel
theorem dX7_readAnswers_105 : decode cX7_readAnswers 105 = .ok (.iaload, 1) := by decide +kernel
theorem dX7_readAnswers_106 : decode cX7_readAnswers 106 = .ok (.iload_n 2, 1) := by decide +kernel
theorem dX7_readAnswers_107 : decode cX7_readAnswers 107 = .ok (.if_icmp .eq 5, 3) := by decide +kernel
theorem dX7_readAnswers_110 : decode cX7_readAnswers 110 = .ok (.iconst 0, 1) := by decide +kernel
theorem dX7_readAnswers_111 : decode cX7_readAnswers 111 = .ok (.ireturn, 1) := by decide +kernel
theorem dX7_readAnswers_112 : decode cX7_readAnswers 112 = .ok (.iinc 2 1, 3) := by decide +kernel
theorem dX7_readAnswers_115 : decode cX7_readAnswers 115 = .ok (.goto (-43), 3) := by decide +kernel
theorem dX7_readAnswers_118 : decode cX7_readAnswers 118 = .ok (.iconst 1, 1) := by decide +kernel
theorem dX7_readAnswers_119 : decode cX7_readAnswers 119 = .ok (.ireturn, 1) := by decide +kernel
def f_X7_readAnswers_112 (kb_72 : Int32 → zS → Option (Int32 × zS)) (v2 : Int32) (s : zS) : Option (Int32 × zS) :=
  zb (v2 + (1 : Int32)) fun x1 =>
  kb_72 x1 s
set_option maxRecDepth 20000 in
theorem b_X7_readAnswers_112 {X : zX} {kb_72 : Int32 → zS → Option (Int32 × zS)} (hX : zx_ok X cX7_readAnswers RX7 5) (hT : zx_rt X (some .boolean) (zR 4 85)) (hk_72 : ∀ (v2 : Int32) (s : zS), zV X (zq X zrI) 5 72 [(0, .ref (zx_ad X 0)), (2, .int v2)] [] s (kb_72 v2 s)) : ∀ (v2 : Int32) (s : zS), zV X (zq X zrI) 5 112 [(0, .ref (zx_ad X 0)), (2, .int v2)] [] s (f_X7_readAnswers_112 kb_72 v2 s) := by
  intro v2 s
  unfold f_X7_readAnswers_112
  refine zv_iincB (lw := fun x1 => [(2, .int x1), (0, .ref (zx_ad X 0))]) hX dX7_readAnswers_112 1 rfl zi_i_1 (by decide) (fun _ => rfl) (fun x1 => ?_)
  refine zv_goto (tgt := 72) hX dX7_readAnswers_115 rfl ?_
  exact zv_sub [1, 0] rfl (hk_72 x1 s)
def f_X7_readAnswers_72 : Nat → Int32 → zS → Option (Int32 × zS)
  | 0, _, _ => none
  | n + 1, v2, s =>
    if (s.1 3 0) ≤ v2 then
    (some ((1 : Int32), s))
    else
    (zr_i s 63 v2).bind fun x2 =>
    if x2 < 0 then
    (f_X7_readAnswers_112 (f_X7_readAnswers_72 n) v2 s)
    else
    (zr_i s 63 x2).bind fun x3 =>
    if x3 = v2 then
    (f_X7_readAnswers_112 (f_X7_readAnswers_72 n) v2 s)
    else
    some ((0 : Int32), s)
set_option maxRecDepth 20000 in
theorem b_X7_readAnswers_72 {X : zX} (hX : zx_ok X cX7_readAnswers RX7 5) (hT : zx_rt X (some .boolean) (zR 4 85)) : ∀ (n : Nat) (v2 : Int32) (s : zS), zV X (zq X zrI) 5 72 [(0, .ref (zx_ad X 0)), (2, .int v2)] [] s (f_X7_readAnswers_72 n v2 s) := by
  intro n
  induction n with
  | zero => intro v2 s; exact zv_none
  | succ n ih =>
    intro v2 s
    rw [f_X7_readAnswers_72]
    refine zv_iload_n hX dX7_readAnswers_72 1 rfl ?_
    refine zv_aload_n hX dX7_readAnswers_73 0 rfl ?_
    refine zv_geta hX wf_X7_20 wc_7 zd_0 zj_0_2 c9_7 zr_0_2 (by decide) dX7_readAnswers_74 ?_
    refine zv_geti hX wf_X7_215 wc_5 zd_3 zj_3_0 c9_5 zr_3_0 dX7_readAnswers_77 ?_
    refine zv_icmp_ge (tgt := 118) hX dX7_readAnswers_80 rfl ?_ ?_
    · refine zv_iconst (v := (1 : Int32)) hX dX7_readAnswers_118 zi_i_1 ?_
      exact zv_iretz hX hT (by decide) dX7_readAnswers_119
    · refine zv_aload_n hX dX7_readAnswers_83 0 rfl ?_
      refine zv_geta hX wf_X7_45 wc_7 zd_0 zj_0_5 c9_7 zr_0_5 (by decide) dX7_readAnswers_84 ?_
      refine zv_geta hX wf_X7_292 wc_0 zd_60 zj_60_5 c9_0 zr_60_5 (by decide) dX7_readAnswers_87 ?_
      refine zv_iload_n hX dX7_readAnswers_90 1 rfl ?_
      refine zv_iald hX dX7_readAnswers_91 (fun x2 => ?_)
      refine zv_istore_n (lv' := [(3, .int x2), (0, .ref (zx_ad X 0)), (2, .int v2)]) hX dX7_readAnswers_92 (by decide) rfl ?_
      refine zv_iload_n hX dX7_readAnswers_93 0 rfl ?_
      refine zv_if_lt (tgt := 112) hX dX7_readAnswers_94 rfl ?_ ?_
      · exact zv_sub [1, 2] rfl (b_X7_readAnswers_112 hX hT ih v2 s)
      · refine zv_aload_n hX dX7_readAnswers_97 1 rfl ?_
        refine zv_geta hX wf_X7_45 wc_7 zd_0 zj_0_5 c9_7 zr_0_5 (by decide) dX7_readAnswers_98 ?_
        refine zv_geta hX wf_X7_292 wc_0 zd_60 zj_60_5 c9_0 zr_60_5 (by decide) dX7_readAnswers_101 ?_
        refine zv_iload_n hX dX7_readAnswers_104 0 rfl ?_
        refine zv_iald hX dX7_readAnswers_105 (fun x3 => ?_)
        refine zv_iload_n hX dX7_readAnswers_106 2 rfl ?_
        refine zv_icmp_eq (tgt := 112) hX dX7_readAnswers_107 rfl ?_ ?_
        · exact zv_sub [1, 2] rfl (b_X7_readAnswers_112 hX hT ih v2 s)
        · refine zv_iconst (v := (0 : Int32)) hX dX7_readAnswers_110 zi_i_0 ?_
          exact zv_iretz hX hT (by decide) dX7_readAnswers_111
def f_X7_readAnswers_51  (s : zS) : Option (Int32 × zS) :=
  some ((0 : Int32), s)
set_option maxRecDepth 20000 in
theorem b_X7_readAnswers_51 {X : zX} (hX : zx_ok X cX7_readAnswers RX7 5) (hT : zx_rt X (some .boolean) (zR 4 85)) : ∀  (s : zS), zV X (zq X zrI) 5 51 [] [] s (f_X7_readAnswers_51  s) := by
  intro  s
  unfold f_X7_readAnswers_51
  refine zv_iconst (v := (0 : Int32)) hX dX7_readAnswers_51 zi_i_0 ?_
  exact zv_iretz hX hT (by decide) dX7_readAnswers_52
def f_X7_readAnswers_2 : Nat → Int32 → Int32 → zS → Option (Int32 × zS)
  | 0, _, _, _ => none
  | n + 1, v1, v2, s =>
    if (s.1 3 0) ≤ v2 then
    (f_X7_readAnswers_72 zFU (0 : Int32) s)
    else
    zbd (f_X6_numberAt v1 v2 s) fun r4 s5 =>
    if (lg_cmp r4 (-1 : Int64)) < 0 then
    (f_X7_readAnswers_51 s5)
    else
    if 0 ≤ (lg_cmp r4 ((s5.1 3 0).toInt64)) then
    (f_X7_readAnswers_51 s5)
    else
    if ¬ (lg_cmp r4 (v2.toInt64)) = 0 then
    ((zw_i s5 63 v2 (r4.toInt32)).bind fun s6 =>
    zb (v2 + (1 : Int32)) fun x7 =>
    f_X7_readAnswers_2 n v1 x7 s6)
    else
    f_X7_readAnswers_51 s5
set_option maxRecDepth 20000 in
theorem b_X7_readAnswers_2 {X : zX} (hX : zx_ok X cX7_readAnswers RX7 5) (hT : zx_rt X (some .boolean) (zR 4 85)) : ∀ (n : Nat) (v1 : Int32) (v2 : Int32) (s : zS), zV X (zq X zrI) 5 2 [(0, .ref (zx_ad X 0)), (1, .int v1), (2, .int v2)] [] s (f_X7_readAnswers_2 n v1 v2 s) := by
  intro n
  induction n with
  | zero => intro v1 v2 s; exact zv_none
  | succ n ih =>
    intro v1 v2 s
    rw [f_X7_readAnswers_2]
    refine zv_iload_n hX dX7_readAnswers_2 2 rfl ?_
    refine zv_aload_n hX dX7_readAnswers_3 0 rfl ?_
    refine zv_geta hX wf_X7_20 wc_7 zd_0 zj_0_2 c9_7 zr_0_2 (by decide) dX7_readAnswers_4 ?_
    refine zv_geti hX wf_X7_215 wc_5 zd_3 zj_3_0 c9_5 zr_3_0 dX7_readAnswers_7 ?_
    refine zv_icmp_ge (tgt := 70) hX dX7_readAnswers_10 rfl ?_ ?_
    · refine zv_iconst (v := (0 : Int32)) hX dX7_readAnswers_70 zi_i_0 ?_
      refine zv_istore_n (lv' := [(2, .int (0 : Int32)), (0, .ref (zx_ad X 0)), (1, .int v1)]) hX dX7_readAnswers_71 (by decide) rfl ?_
      exact zv_sub [1, 0] rfl (b_X7_readAnswers_72 hX hT zFU (0 : Int32) s)
    · refine zv_aload_n hX dX7_readAnswers_13 0 rfl ?_
      refine zv_geta hX wf_X7_52 wc_7 zd_0 zj_0_8 c9_7 zr_0_8 (by decide) dX7_readAnswers_14 ?_
      refine zv_iload_n hX dX7_readAnswers_17 1 rfl ?_
      refine zv_iload_n hX dX7_readAnswers_18 2 rfl ?_
      refine zv_cVJ [.int v1, .int v2] (rest := []) hX hT.2.2.2.2 (c_X6_numberAt (zx_Y X) v1 v2 s) wv_X6_numberAt c9_6 zd_68 wm_X7_262 rfl (Nat.le_of_ble_eq_true rfl) (Nat.le_of_ble_eq_true rfl) rfl (Nat.le_of_ble_eq_true rfl) dX7_readAnswers_19 (fun r4 s5 => ?_)
      refine zv_lstore_n (lv' := [(3, .long r4), (0, .ref (zx_ad X 0)), (1, .int v1), (2, .int v2)]) hX dX7_readAnswers_22 (by decide) rfl ?_
      refine zv_lload_n hX dX7_readAnswers_23 0 rfl ?_
      refine zv_ldc2 hX wn_X7_295 dX7_readAnswers_24 ?_
      refine zv_lcmp hX dX7_readAnswers_27 ?_
      refine zv_if_lt (tgt := 51) hX dX7_readAnswers_28 rfl ?_ ?_
      · exact zv_sub [] rfl (b_X7_readAnswers_51 hX hT  s5)
      · refine zv_lload_n hX dX7_readAnswers_31 0 rfl ?_
        refine zv_aload_n hX dX7_readAnswers_32 1 rfl ?_
        refine zv_geta hX wf_X7_20 wc_7 zd_0 zj_0_2 c9_7 zr_0_2 (by decide) dX7_readAnswers_33 ?_
        refine zv_geti hX wf_X7_215 wc_5 zd_3 zj_3_0 c9_5 zr_3_0 dX7_readAnswers_36 ?_
        refine zv_i2l hX dX7_readAnswers_39 ?_
        refine zv_lcmp hX dX7_readAnswers_40 ?_
        refine zv_if_ge (tgt := 51) hX dX7_readAnswers_41 rfl ?_ ?_
        · exact zv_sub [] rfl (b_X7_readAnswers_51 hX hT  s5)
        · refine zv_lload_n hX dX7_readAnswers_44 0 rfl ?_
          refine zv_iload_n hX dX7_readAnswers_45 3 rfl ?_
          refine zv_i2l hX dX7_readAnswers_46 ?_
          refine zv_lcmp hX dX7_readAnswers_47 ?_
          refine zv_if_ne (tgt := 53) hX dX7_readAnswers_48 rfl ?_ ?_
          · refine zv_aload_n hX dX7_readAnswers_53 1 rfl ?_
            refine zv_geta hX wf_X7_45 wc_7 zd_0 zj_0_5 c9_7 zr_0_5 (by decide) dX7_readAnswers_54 ?_
            refine zv_geta hX wf_X7_292 wc_0 zd_60 zj_60_5 c9_0 zr_60_5 (by decide) dX7_readAnswers_57 ?_
            refine zv_iload_n hX dX7_readAnswers_60 3 rfl ?_
            refine zv_lload_n hX dX7_readAnswers_61 0 rfl ?_
            refine zv_l2i hX dX7_readAnswers_62 ?_
            refine zv_iast hX dX7_readAnswers_63 (fun s6 => ?_)
            refine zv_iincB (lw := fun x7 => [(2, .int x7), (3, .long r4), (0, .ref (zx_ad X 0)), (1, .int v1)]) hX dX7_readAnswers_64 3 rfl zi_i_1 (by decide) (fun _ => rfl) (fun x7 => ?_)
            refine zv_goto (tgt := 2) hX dX7_readAnswers_67 rfl ?_
            exact zv_sub [2, 3, 0] rfl (ih v1 x7 s6)
          · exact zv_sub [] rfl (b_X7_readAnswers_51 hX hT  s5)
def f_X7_readAnswers (v1 : Int32) (s : zS) : Option (Int32 × zS) :=
  f_X7_readAnswers_2 zFU v1 (0 : Int32) s
set_option maxRecDepth 20000 in
theorem c_X7_readAnswers (Y : zG) (v1 : Int32) (s : zS) : zM Y yX7_readAnswers cX7_readAnswers 5 (some .boolean) (zR 4 85) [.ref (zy_a Y 0), .int v1] s zrI (f_X7_readAnswers v1 s) := by
  refine zm_start (by decide +kernel) (Nat.le_of_ble_eq_true rfl) ?_
  intro X hY hT hX
  subst hY
  have hX : zx_ok X cX7_readAnswers RX7 5 := hX
  show zV X (zq X zrI) 5 0 [(0, .ref (zx_ad X 0)), (1, .int v1)] [] s _
  unfold f_X7_readAnswers
  refine zv_iconst (v := (0 : Int32)) hX dX7_readAnswers_0 zi_i_0 ?_
  refine zv_istore_n (lv' := [(2, .int (0 : Int32)), (0, .ref (zx_ad X 0)), (1, .int v1)]) hX dX7_readAnswers_1 (by decide) rfl ?_
  exact zv_sub [1, 2, 0] rfl (b_X7_readAnswers_2 hX hT zFU v1 (0 : Int32) s)
theorem dX7_marksBy_0 : decode cX7_marksBy 0 = .ok (.aload_n 0, 1) := by decide +kernel
theorem dX7_marksBy_1 : decode cX7_marksBy 1 = .ok (.getfield 52, 3) := by decide +kernel
theorem dX7_marksBy_4 : decode cX7_marksBy 4 = .ok (.iload_n 1, 1) := by decide +kernel
theorem dX7_marksBy_5 : decode cX7_marksBy 5 = .ok (.invokevirtual 180, 3) := by decide +kernel
theorem dX7_marksBy_8 : decode cX7_marksBy 8 = .ok (.ifCond .eq 6, 3) := by decide +kernel
theorem dX7_marksBy_11 : decode cX7_marksBy 11 = .ok (.bipush (-6), 2) := by decide +kernel
theorem dX7_marksBy_13 : decode cX7_marksBy 13 = .ok (.ireturn, 1) := by decide +kernel
theorem dX7_marksBy_14 : decode cX7_marksBy 14 = .ok (.aload_n 0, 1) := by decide +kernel
theorem dX7_marksBy_15 : decode cX7_marksBy 15 = .ok (.getfield 52, 3) := by decide +kernel
theorem dX7_marksBy_18 : decode cX7_marksBy 18 = .ok (.iload_n 1, 1) := by decide +kernel
theorem dX7_marksBy_19 : decode cX7_marksBy 19 = .ok (.invokevirtual 259, 3) := by decide +kernel
theorem dX7_marksBy_22 : decode cX7_marksBy 22 = .ok (.aload_n 0, 1) := by decide +kernel
theorem dX7_marksBy_23 : decode cX7_marksBy 23 = .ok (.getfield 20, 3) := by decide +kernel
theorem dX7_marksBy_26 : decode cX7_marksBy 26 = .ok (.getfield 215, 3) := by decide +kernel
theorem dX7_marksBy_29 : decode cX7_marksBy 29 = .ok (.if_icmp .eq 6, 3) := by decide +kernel
theorem dX7_marksBy_32 : decode cX7_marksBy 32 = .ok (.bipush (-4), 2) := by decide +kernel
theorem dX7_marksBy_34 : decode cX7_marksBy 34 = .ok (.ireturn, 1) := by decide +kernel
theorem dX7_marksBy_35 : decode cX7_marksBy 35 = .ok (.aload_n 0, 1) := by decide +kernel
theorem dX7_marksBy_36 : decode cX7_marksBy 36 = .ok (.iload_n 1, 1) := by decide +kernel
theorem dX7_marksBy_37 : decode cX7_marksBy 37 = .ok (.invokevirtual 286, 3) := by decide +kernel
theorem dX7_marksBy_40 : decode cX7_marksBy 40 = .ok (.ifCond .ne 6, 3) := by decide +kernel
theorem dX7_marksBy_43 : decode cX7_marksBy 43 = .ok (.bipush (-3), 2) := by decide +kernel
theorem dX7_marksBy_45 : decode cX7_marksBy 45 = .ok (.ireturn, 1) := by decide +kernel
theorem dX7_marksBy_46 : decode cX7_marksBy 46 = .ok (.aload_n 0, 1) := by decide +kernel
theorem dX7_marksBy_47 : decode cX7_marksBy 47 = .ok (.getfield 20, 3) := by decide +kernel
theorem dX7_marksBy_50 : decode cX7_marksBy 50 = .ok (.getfield 122, 3) := by decide +kernel
theorem dX7_marksBy_53 : decode cX7_marksBy 53 = .ok (.iload_n 2, 1) := by decide +kernel
theorem dX7_marksBy_54 : decode cX7_marksBy 54 = .ok (.iaload, 1) := by decide +kernel
theorem dX7_marksBy_55 : decode cX7_marksBy 55 = .ok (.istore_n 3, 1) := by decide +kernel
theorem dX7_marksBy_56 : decode cX7_marksBy 56 = .ok (.iconst 0, 1) := by decide +kernel
theorem dX7_marksBy_57 : decode cX7_marksBy 57 = .ok (.istore 4, 2) := by decide +kernel
theorem dX7_marksBy_59 : decode cX7_marksBy 59 = .ok (.iconst 0, 1) := by decide +kernel
theorem dX7_marksBy_60 : decode cX7_marksBy 60 = .ok (.istore 5, 2) := by decide +kernel
theorem dX7_marksBy_62 : decode cX7_marksBy 62 = .ok (.iload 5, 2) := by decide +kernel
theorem dX7_marksBy_64 : decode cX7_marksBy 64 = .ok (.bipush 10, 2) := by decide +kernel
theorem dX7_marksBy_66 : decode cX7_marksBy 66 = .ok (.if_icmp .ge 59, 3) := by decide +kernel
theorem dX7_marksBy_69 : decode cX7_marksBy 69 = .ok (.aload_n 0, 1) := by decide +kernel
theorem dX7_marksBy_70 : decode cX7_marksBy 70 = .ok (.getfield 20, 3) := by decide +kernel
theorem dX7_marksBy_73 : decode cX7_marksBy 73 = .ok (.iload_n 2, 1) := by decide +kernel
theorem dX7_marksBy_74 : decode cX7_marksBy 74 = .ok (.iload 5, 2) := by decide +kernel
theorem dX7_marksBy_76 : decode cX7_marksBy 76 = .ok (.invokevirtual 289, 3) := by decide +kernel
theorem dX7_marksBy_79 : decode cX7_marksBy 79 = .ok (.aload_n 0, 1) := by decide +kernel
theorem dX7_marksBy_80 : decode cX7_marksBy 80 = .ok (.getfield 45, 3) := by decide +kernel
theorem dX7_marksBy_83 : decode cX7_marksBy 83 = .ok (.invokevirtual 205, 3) := by decide +kernel
theorem dX7_marksBy_86 : decode cX7_marksBy 86 = .ok (.aload_n 0, 1) := by decide +kernel
theorem dX7_marksBy_87 : decode cX7_marksBy 87 = .ok (.getfield 45, 3) := by decide +kernel
theorem dX7_marksBy_90 : decode cX7_marksBy 90 = .ok (.aload_n 0, 1) := by decide +kernel
theorem dX7_marksBy_91 : decode cX7_marksBy 91 = .ok (.getfield 45, 3) := by decide +kernel
theorem dX7_marksBy_94 : decode cX7_marksBy 94 = .ok (.getfield 292, 3) := by decide +kernel
theorem dX7_marksBy_97 : decode cX7_marksBy 97 = .ok (.aload_n 0, 1) := by decide +kernel
theorem dX7_marksBy_98 : decode cX7_marksBy 98 = .ok (.getfield 20, 3) := by decide +kernel
theorem dX7_marksBy_101 : decode cX7_marksBy 101 = .ok (.invokevirtual 208, 3) := by decide +kernel
theorem dX7_marksBy_104 : decode cX7_marksBy 104 = .ok (.invokevirtual 211, 3) := by decide +kernel
theorem dX7_marksBy_107 : decode cX7_marksBy 107 = .ok (.ifCond .eq 12, 3) := by decide +kernel
theorem dX7_marksBy_110 : decode cX7_marksBy 110 = .ok (.iload 4, 2) := by decide +kernel
theorem dX7_marksBy_112 : decode cX7_marksBy 112 = .ok (.iconst 1, 1) := by decide +kernel
theorem dX7_marksBy_113 : decode cX7_marksBy 113 = .ok (.iload 5, 2) := by decide +kernel
theorem dX7_marksBy_115 : decode cX7_marksBy 115 = .ok (.ishl, 1) := by decide +kernel
theorem dX7_marksBy_116 : decode cX7_marksBy 116 = .ok (.ior, 1) := by decide +kernel
theorem dX7_marksBy_117 : decode cX7_marksBy 117 = .ok (.istore 4, 2) := by decide +kernel
theorem dX7_marksBy_119 : decode cX7_marksBy 119 = .ok (.iinc 5 1, 3) := by decide +kernel
theorem dX7_marksBy_122 : decode cX7_marksBy 122 = .ok (.goto (-60), 3) := by decide +kernel
theorem dX7_marksBy_125 : decode cX7_marksBy 125 = .ok (.aload_n 0, 1) := by decide +kernel
theorem dX7_marksBy_126 : decode cX7_marksBy 126 = .ok (.getfield 20, 3) := by decide +kernel
theorem dX7_marksBy_129 : decode cX7_marksBy 129 = .ok (.iload_n 2, 1) := by decide +kernel
theorem dX7_marksBy_130 : decode cX7_marksBy 130 = .ok (.iload_n 3, 1) := by decide +kernel
theorem dX7_marksBy_131 : decode cX7_marksBy 131 = .ok (.invokevirtual 289, 3) := by decide +kernel
theorem dX7_marksBy_134 : decode cX7_marksBy 134 = .ok (.iload 4, 2) := by decide +kernel
theorem dX7_marksBy_136 : decode cX7_marksBy 136 = .ok (.ireturn, 1) := by decide +kernel
def f_X7_marksBy_119 (kb_62 : Int32 → Int32 → Int32 → Int32 → zS → Option (Int32 × zS)) (v2 : Int32) (v3 : Int32) (v4 : Int32) (v5 : Int32) (s : zS) : Option (Int32 × zS) :=
  zb (v5 + (1 : Int32)) fun x1 =>
  kb_62 v2 v3 v4 x1 s
set_option maxRecDepth 20000 in
theorem b_X7_marksBy_119 {X : zX} {kb_62 : Int32 → Int32 → Int32 → Int32 → zS → Option (Int32 × zS)} (hX : zx_ok X cX7_marksBy RX7 6) (hT : zx_rt X (some .int) (zR 6 147)) (hk_62 : ∀ (v2 : Int32) (v3 : Int32) (v4 : Int32) (v5 : Int32) (s : zS), zV X (zq X zrI) 6 62 [(0, .ref (zx_ad X 0)), (2, .int v2), (3, .int v3), (4, .int v4), (5, .int v5)] [] s (kb_62 v2 v3 v4 v5 s)) : ∀ (v2 : Int32) (v3 : Int32) (v4 : Int32) (v5 : Int32) (s : zS), zV X (zq X zrI) 6 119 [(0, .ref (zx_ad X 0)), (2, .int v2), (3, .int v3), (4, .int v4), (5, .int v5)] [] s (f_X7_marksBy_119 kb_62 v2 v3 v4 v5 s) := by
  intro v2 v3 v4 v5 s
  unfold f_X7_marksBy_119
  refine zv_iincB (lw := fun x1 => [(5, .int x1), (0, .ref (zx_ad X 0)), (2, .int v2), (3, .int v3), (4, .int v4)]) hX dX7_marksBy_119 4 rfl zi_i_1 (by decide) (fun _ => rfl) (fun x1 => ?_)
  refine zv_goto (tgt := 62) hX dX7_marksBy_122 rfl ?_
  exact zv_sub [1, 2, 3, 4, 0] rfl (hk_62 v2 v3 v4 x1 s)
def f_X7_marksBy_62 : Nat → Int32 → Int32 → Int32 → Int32 → zS → Option (Int32 × zS)
  | 0, _, _, _, _, _ => none
  | n + 1, v2, v3, v4, v5, s =>
    if (nI 10) ≤ v5 then
    (zbd (f_X5_setMark_3 v2 v3 s) fun _ s2 =>
    some (v4, s2))
    else
    zbd (f_X5_setMark_3 v2 v5 s) fun _ s3 =>
    zbd (f_X0_learnMatches s3) fun _ s4 =>
    zbd (f_X5_everybody_3 s4) fun r5 s6 =>
    zbd (f_X0_holdsAmong 63 r5 s6) fun r7 s8 =>
    if r7 = 0 then
    (f_X7_marksBy_119 (f_X7_marksBy_62 n) v2 v3 v4 v5 s8)
    else
    zb (v4 ||| (zo_shl (1 : Int32) v5)) fun x9 =>
    f_X7_marksBy_119 (f_X7_marksBy_62 n) v2 v3 x9 v5 s8
set_option maxRecDepth 20000 in
theorem b_X7_marksBy_62 {X : zX} (hX : zx_ok X cX7_marksBy RX7 6) (hT : zx_rt X (some .int) (zR 6 147)) : ∀ (n : Nat) (v2 : Int32) (v3 : Int32) (v4 : Int32) (v5 : Int32) (s : zS), zV X (zq X zrI) 6 62 [(0, .ref (zx_ad X 0)), (2, .int v2), (3, .int v3), (4, .int v4), (5, .int v5)] [] s (f_X7_marksBy_62 n v2 v3 v4 v5 s) := by
  intro n
  induction n with
  | zero => intro v2 v3 v4 v5 s; exact zv_none
  | succ n ih =>
    intro v2 v3 v4 v5 s
    rw [f_X7_marksBy_62]
    refine zv_iload hX dX7_marksBy_62 4 rfl ?_
    refine zv_bipush (v := (nI 10)) hX dX7_marksBy_64 zi_b_10 ?_
    refine zv_icmp_ge (tgt := 125) hX dX7_marksBy_66 rfl ?_ ?_
    · refine zv_aload_n hX dX7_marksBy_125 0 rfl ?_
      refine zv_geta hX wf_X7_20 wc_7 zd_0 zj_0_2 c9_7 zr_0_2 (by decide) dX7_marksBy_126 ?_
      refine zv_iload_n hX dX7_marksBy_129 1 rfl ?_
      refine zv_iload_n hX dX7_marksBy_130 2 rfl ?_
      refine zv_cVV [.int v2, .int v3] (rest := []) hX hT.2.2.2.2 (c_X5_setMark_3 (zx_Y X) v2 v3 s) wv_X5_setMark c9_5 zd_3 wm_X7_289 rfl (Nat.le_of_ble_eq_true rfl) (Nat.le_of_ble_eq_true rfl) rfl (Nat.le_of_ble_eq_true rfl) dX7_marksBy_131 (fun _ s2 => ?_)
      refine zv_iload hX dX7_marksBy_134 3 rfl ?_
      exact zv_ireti hX hT dX7_marksBy_136
    · refine zv_aload_n hX dX7_marksBy_69 0 rfl ?_
      refine zv_geta hX wf_X7_20 wc_7 zd_0 zj_0_2 c9_7 zr_0_2 (by decide) dX7_marksBy_70 ?_
      refine zv_iload_n hX dX7_marksBy_73 1 rfl ?_
      refine zv_iload hX dX7_marksBy_74 4 rfl ?_
      refine zv_cVV [.int v2, .int v5] (rest := []) hX hT.2.2.2.2 (c_X5_setMark_3 (zx_Y X) v2 v5 s) wv_X5_setMark c9_5 zd_3 wm_X7_289 rfl (Nat.le_of_ble_eq_true rfl) (Nat.le_of_ble_eq_true rfl) rfl (Nat.le_of_ble_eq_true rfl) dX7_marksBy_76 (fun _ s3 => ?_)
      refine zv_aload_n hX dX7_marksBy_79 0 rfl ?_
      refine zv_geta hX wf_X7_45 wc_7 zd_0 zj_0_5 c9_7 zr_0_5 (by decide) dX7_marksBy_80 ?_
      refine zv_cVV [] (rest := []) hX hT.2.2.2.2 (c_X0_learnMatches (zx_Y X) s3) wv_X0_learnMatches c9_0 zd_60 wm_X7_205 rfl (Nat.le_of_ble_eq_true rfl) (Nat.le_of_ble_eq_true rfl) rfl (Nat.le_of_ble_eq_true rfl) dX7_marksBy_83 (fun _ s4 => ?_)
      refine zv_aload_n hX dX7_marksBy_86 0 rfl ?_
      refine zv_geta hX wf_X7_45 wc_7 zd_0 zj_0_5 c9_7 zr_0_5 (by decide) dX7_marksBy_87 ?_
      refine zv_aload_n hX dX7_marksBy_90 0 rfl ?_
      refine zv_geta hX wf_X7_45 wc_7 zd_0 zj_0_5 c9_7 zr_0_5 (by decide) dX7_marksBy_91 ?_
      refine zv_geta hX wf_X7_292 wc_0 zd_60 zj_60_5 c9_0 zr_60_5 (by decide) dX7_marksBy_94 ?_
      refine zv_aload_n hX dX7_marksBy_97 0 rfl ?_
      refine zv_geta hX wf_X7_20 wc_7 zd_0 zj_0_2 c9_7 zr_0_2 (by decide) dX7_marksBy_98 ?_
      refine zv_cVI [] (rest := [.ref (zx_ad X 63), .ref (zx_ad X 60)]) hX hT.2.2.2.2 (c_X5_everybody_3 (zx_Y X) s4) wv_X5_everybody c9_5 zd_3 wm_X7_208 rfl (Nat.le_of_ble_eq_true rfl) (Nat.le_of_ble_eq_true rfl) rfl (Nat.le_of_ble_eq_true rfl) dX7_marksBy_101 (fun r5 s6 => ?_)
      refine zv_cVI [.ref (zx_ad X 63), .int r5] (rest := []) hX hT.2.2.2.2 (c_X0_holdsAmong (zx_Y X) 63 r5 s6) wv_X0_holdsAmong c9_0 zd_60 wm_X7_211 rfl (Nat.le_of_ble_eq_true rfl) (Nat.le_of_ble_eq_true rfl) rfl (Nat.le_of_ble_eq_true rfl) dX7_marksBy_104 (fun r7 s8 => ?_)
      refine zv_if_eq (tgt := 119) hX dX7_marksBy_107 rfl ?_ ?_
      · exact b_X7_marksBy_119 hX hT ih v2 v3 v4 v5 s8
      · refine zv_iload hX dX7_marksBy_110 3 rfl ?_
        refine zv_iconst (v := (1 : Int32)) hX dX7_marksBy_112 zi_i_1 ?_
        refine zv_iload hX dX7_marksBy_113 4 rfl ?_
        refine zv_ishl hX dX7_marksBy_115 ?_
        refine zv_ior hX dX7_marksBy_116 ?_
        refine zv_istB (lw := fun x9 => [(4, .int x9), (0, .ref (zx_ad X 0)), (2, .int v2), (3, .int v3), (5, .int v5)]) hX dX7_marksBy_117 (by decide) (fun _ => rfl) (fun x9 => ?_)
        exact zv_sub [1, 2, 3, 0, 4] rfl (b_X7_marksBy_119 hX hT ih v2 v3 x9 v5 s8)
def f_X7_marksBy (v1 : Int32) (v2 : Int32) (s : zS) : Option (Int32 × zS) :=
  zbd (f_X6_isMissing v1 s) fun r10 s11 =>
  if r10 = 0 then
  (zbd (f_X6_sizeOf v1 s11) fun r12 s13 =>
  if r12 = (s13.1 3 0) then
  (zbd (f_X7_readAnswers v1 s13) fun r14 s15 =>
  if ¬ r14 = 0 then
  ((zr_i s15 5 v2).bind fun x16 =>
  f_X7_marksBy_62 zFU v2 x16 (0 : Int32) (0 : Int32) s15)
  else
  some ((-3 : Int32), s15))
  else
  some ((-4 : Int32), s13))
  else
  some ((-6 : Int32), s11)
set_option maxRecDepth 20000 in
theorem c_X7_marksBy (Y : zG) (v1 : Int32) (v2 : Int32) (s : zS) : zM Y yX7_marksBy cX7_marksBy 6 (some .int) (zR 6 147) [.ref (zy_a Y 0), .int v1, .int v2] s zrI (f_X7_marksBy v1 v2 s) := by
  refine zm_start (by decide +kernel) (Nat.le_of_ble_eq_true rfl) ?_
  intro X hY hT hX
  subst hY
  have hX : zx_ok X cX7_marksBy RX7 6 := hX
  show zV X (zq X zrI) 6 0 [(0, .ref (zx_ad X 0)), (1, .int v1), (2, .int v2)] [] s _
  unfold f_X7_marksBy
  refine zv_aload_n hX dX7_marksBy_0 0 rfl ?_
  refine zv_geta hX wf_X7_52 wc_7 zd_0 zj_0_8 c9_7 zr_0_8 (by decide) dX7_marksBy_1 ?_
  refine zv_iload_n hX dX7_marksBy_4 1 rfl ?_
  refine zv_cVI [.int v1] (rest := []) hX hT.2.2.2.2 (c_X6_isMissing (zx_Y X) v1 s) wv_X6_isMissing c9_6 zd_68 wm_X7_180 rfl (Nat.le_of_ble_eq_true rfl) (Nat.le_of_ble_eq_true rfl) rfl (Nat.le_of_ble_eq_true rfl) dX7_marksBy_5 (fun r10 s11 => ?_)
  refine zv_if_eq (tgt := 14) hX dX7_marksBy_8 rfl ?_ ?_
  · refine zv_aload_n hX dX7_marksBy_14 0 rfl ?_
    refine zv_geta hX wf_X7_52 wc_7 zd_0 zj_0_8 c9_7 zr_0_8 (by decide) dX7_marksBy_15 ?_
    refine zv_iload_n hX dX7_marksBy_18 1 rfl ?_
    refine zv_cVI [.int v1] (rest := []) hX hT.2.2.2.2 (c_X6_sizeOf (zx_Y X) v1 s11) wv_X6_sizeOf c9_6 zd_68 wm_X7_259 rfl (Nat.le_of_ble_eq_true rfl) (Nat.le_of_ble_eq_true rfl) rfl (Nat.le_of_ble_eq_true rfl) dX7_marksBy_19 (fun r12 s13 => ?_)
    refine zv_aload_n hX dX7_marksBy_22 0 rfl ?_
    refine zv_geta hX wf_X7_20 wc_7 zd_0 zj_0_2 c9_7 zr_0_2 (by decide) dX7_marksBy_23 ?_
    refine zv_geti hX wf_X7_215 wc_5 zd_3 zj_3_0 c9_5 zr_3_0 dX7_marksBy_26 ?_
    refine zv_icmp_eq (tgt := 35) hX dX7_marksBy_29 rfl ?_ ?_
    · refine zv_aload_n hX dX7_marksBy_35 0 rfl ?_
      refine zv_iload_n hX dX7_marksBy_36 1 rfl ?_
      refine zv_cVI [.int v1] (rest := []) hX hT.2.2.2.2 (c_X7_readAnswers (zx_Y X) v1 s13) wv_X7_readAnswers c9_7 zd_0 wm_X7_286 rfl (Nat.le_of_ble_eq_true rfl) (Nat.le_of_ble_eq_true rfl) rfl (Nat.le_of_ble_eq_true rfl) dX7_marksBy_37 (fun r14 s15 => ?_)
      refine zv_if_ne (tgt := 46) hX dX7_marksBy_40 rfl ?_ ?_
      · refine zv_aload_n hX dX7_marksBy_46 0 rfl ?_
        refine zv_geta hX wf_X7_20 wc_7 zd_0 zj_0_2 c9_7 zr_0_2 (by decide) dX7_marksBy_47 ?_
        refine zv_geta hX wf_X7_122 wc_5 zd_3 zj_3_3 c9_5 zr_3_3 (by decide) dX7_marksBy_50 ?_
        refine zv_iload_n hX dX7_marksBy_53 2 rfl ?_
        refine zv_iald hX dX7_marksBy_54 (fun x16 => ?_)
        refine zv_istore_n (lv' := [(3, .int x16), (0, .ref (zx_ad X 0)), (1, .int v1), (2, .int v2)]) hX dX7_marksBy_55 (by decide) rfl ?_
        refine zv_iconst (v := (0 : Int32)) hX dX7_marksBy_56 zi_i_0 ?_
        refine zv_istore (lv' := [(4, .int (0 : Int32)), (3, .int x16), (0, .ref (zx_ad X 0)), (1, .int v1), (2, .int v2)]) hX dX7_marksBy_57 (by decide) rfl ?_
        refine zv_iconst (v := (0 : Int32)) hX dX7_marksBy_59 zi_i_0 ?_
        refine zv_istore (lv' := [(5, .int (0 : Int32)), (4, .int (0 : Int32)), (3, .int x16), (0, .ref (zx_ad X 0)), (1, .int v1), (2, .int v2)]) hX dX7_marksBy_60 (by decide) rfl ?_
        exact zv_sub [3, 5, 2, 1, 0] rfl (b_X7_marksBy_62 hX hT zFU v2 x16 (0 : Int32) (0 : Int32) s15)
      · refine zv_bipush (v := (-3 : Int32)) hX dX7_marksBy_43 zi_b_m3 ?_
        exact zv_ireti hX hT dX7_marksBy_45
    · refine zv_bipush (v := (-4 : Int32)) hX dX7_marksBy_32 zi_b_m4 ?_
      exact zv_ireti hX hT dX7_marksBy_34
  · refine zv_bipush (v := (-6 : Int32)) hX dX7_marksBy_11 zi_b_m6 ?_
    exact zv_ireti hX hT dX7_marksBy_13
