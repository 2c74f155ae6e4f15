theorem dX8_inkOf_0 : decode cX8_inkOf 0 = .ok (.iconst 0, 1) := by decide +kernel
theorem dX8_inkOf_1 : decode cX8_inkOf 1 = .ok (.istore_n 2, 1) := by decide +kernel
theorem dX8_inkOf_2 : decode cX8_inkOf 2 = .ok (.iconst 0, 1) := by decide +kernel
theorem dX8_inkOf_3 : decode cX8_inkOf 3 = .ok (.istore_n 3, 1) := by decide +kernel
theorem dX8_inkOf_4 : decode cX8_inkOf 4 = .ok (.iload_n 3, 1) := by decide +kernel
theorem dX8_inkOf_5 : decode cX8_inkOf 5 = .ok (.aload_n 0, 1) := by decide +kernel
theorem dX8_inkOf_6 : decode cX8_inkOf 6 = .ok (.getfield 13, 3) := by decide +kernel
theorem dX8_inkOf_9 : decode cX8_inkOf 9 = .ok (.iconst 1, 1) := by decide +kernel
theorem dX8_inkOf_10 : decode cX8_inkOf 10 = .ok (.iaload, 1) := by decide +kernel
theorem dX8_inkOf_11 : decode cX8_inkOf 11 = .ok (.if_icmp .ge 37, 3) := by decide +kernel
theorem dX8_inkOf_14 : decode cX8_inkOf 14 = .ok (.iload_n 2, 1) := by decide +kernel
theorem dX8_inkOf_15 : decode cX8_inkOf 15 = .ok (.iload_n 1, 1) := by decide +kernel
theorem dX8_inkOf_16 : decode cX8_inkOf 16 = .ok (.i2l, 1) := by decide +kernel
theorem dX8_inkOf_17 : decode cX8_inkOf 17 = .ok (.iload_n 3, 1) := by decide +kernel
theorem dX8_inkOf_18 : decode cX8_inkOf 18 = .ok (.invokestatic 223, 3) := by decide +kernel
theorem dX8_inkOf_21 : decode cX8_inkOf 21 = .ok (.ifCond .eq 18, 3) := by decide +kernel
theorem dX8_inkOf_24 : decode cX8_inkOf 24 = .ok (.aload_n 0, 1) := by decide +kernel
theorem dX8_inkOf_25 : decode cX8_inkOf 25 = .ok (.getfield 13, 3) := by decide +kernel
theorem dX8_inkOf_28 : decode cX8_inkOf 28 = .ok (.bipush 29, 2) := by decide +kernel
theorem dX8_inkOf_30 : decode cX8_inkOf 30 = .ok (.iload_n 3, 1) := by decide +kernel
theorem dX8_inkOf_31 : decode cX8_inkOf 31 = .ok (.iadd, 1) := by decide +kernel
theorem dX8_inkOf_32 : decode cX8_inkOf 32 = .ok (.iaload, 1) := by decide +kernel
theorem dX8_inkOf_33 : decode cX8_inkOf 33 = .ok (.invokestatic 233, 3) := by decide +kernel
theorem dX8_inkOf_36 : decode cX8_inkOf 36 = .ok (.goto 4, 3) := by decide +kernel
theorem dX8_inkOf_39 : decode cX8_inkOf 39 = .ok (.iconst 0, 1) := by decide +kernel
theorem dX8_inkOf_40 : decode cX8_inkOf 40 = .ok (.iadd, 1) := by decide +kernel
theorem dX8_inkOf_41 : decode cX8_inkOf 41 = .ok (.istore_n 2, 1) := by decide +kernel
theorem dX8_inkOf_42 : decode cX8_inkOf 42 = .ok (.iinc 3 1, 3) := by decide +kernel
theorem dX8_inkOf_45 : decode cX8_inkOf 45 = .ok (.goto (-41), 3) := by decide +kernel
theorem dX8_inkOf_48 : decode cX8_inkOf 48 = .ok (.iload_n 2, 1) := by decide +kernel
theorem dX8_inkOf_49 : decode cX8_inkOf 49 = .ok (.ireturn, 1) := by decide +kernel
def f_X8_inkOf_40 (kb_4 : Int32 → Int32 → Int32 → zS → Option (Int32 × zS)) (v1 : Int32) (v3 : Int32) (w0 : Int32) (w1 : Int32) (s : zS) : Option (Int32 × zS) :=
  zb (w1 + w0) fun x1 =>
  zb (v3 + (1 : Int32)) fun x2 =>
  kb_4 v1 x1 x2 s
set_option maxRecDepth 20000 in
theorem b_X8_inkOf_40 {X : zX} {kb_4 : Int32 → Int32 → Int32 → zS → Option (Int32 × zS)} (hX : zx_ok X cX8_inkOf RX8 4) (hT : zx_rt X (some .int) (zR 1 22)) (hk_4 : ∀ (v1 : Int32) (v2 : Int32) (v3 : Int32) (s : zS), zV X (zq X zrI) 4 4 [(0, .ref (zx_ad X 76)), (1, .int v1), (2, .int v2), (3, .int v3)] [] s (kb_4 v1 v2 v3 s)) : ∀ (v1 : Int32) (v3 : Int32) (w0 : Int32) (w1 : Int32) (s : zS), zV X (zq X zrI) 4 40 [(0, .ref (zx_ad X 76)), (1, .int v1), (3, .int v3)] [.int w0, .int w1] s (f_X8_inkOf_40 kb_4 v1 v3 w0 w1 s) := by
  intro v1 v3 w0 w1 s
  unfold f_X8_inkOf_40
  refine zv_iadd hX dX8_inkOf_40 ?_
  refine zv_istB_n (lw := fun x1 => [(2, .int x1), (0, .ref (zx_ad X 76)), (1, .int v1), (3, .int v3)]) hX dX8_inkOf_41 (by decide) (fun _ => rfl) (fun x1 => ?_)
  refine zv_iincB (lw := fun x2 => [(3, .int x2), (2, .int x1), (0, .ref (zx_ad X 76)), (1, .int v1)]) hX dX8_inkOf_42 3 rfl zi_i_1 (by decide) (fun _ => rfl) (fun x2 => ?_)
  refine zv_goto (tgt := 4) hX dX8_inkOf_45 rfl ?_
  exact zv_sub [2, 3, 1, 0] rfl (hk_4 v1 x1 x2 s)
def f_X8_inkOf_4 : Nat → Int32 → Int32 → Int32 → zS → Option (Int32 × zS)
  | 0, _, _, _, _ => none
  | n + 1, v1, v2, v3, s =>
    (zr_i s 77 (1 : Int32)).bind fun x3 =>
    if x3 ≤ v3 then
    (some (v2, s))
    else
    zbd (f_X8_isIn (v1.toInt64) v3 s) fun r4 s5 =>
    if r4 = 0 then
    (f_X8_inkOf_40 (f_X8_inkOf_4 n) v1 v3 (0 : Int32) v2 s5)
    else
    (zr_i s5 77 ((nI 29) + v3)).bind fun x6 =>
    zbd (f_X8_bitsOf x6 s5) fun r7 s8 =>
    f_X8_inkOf_40 (f_X8_inkOf_4 n) v1 v3 r7 v2 s8
set_option maxRecDepth 20000 in
theorem b_X8_inkOf_4 {X : zX} (hX : zx_ok X cX8_inkOf RX8 4) (hT : zx_rt X (some .int) (zR 1 22)) : ∀ (n : Nat) (v1 : Int32) (v2 : Int32) (v3 : Int32) (s : zS), zV X (zq X zrI) 4 4 [(0, .ref (zx_ad X 76)), (1, .int v1), (2, .int v2), (3, .int v3)] [] s (f_X8_inkOf_4 n v1 v2 v3 s) := by
  intro n
  induction n with
  | zero => intro v1 v2 v3 s; exact zv_none
  | succ n ih =>
    intro v1 v2 v3 s
    rw [f_X8_inkOf_4]
    refine zv_iload_n hX dX8_inkOf_4 3 rfl ?_
    refine zv_aload_n hX dX8_inkOf_5 0 rfl ?_
    refine zv_geta hX wf_X8_13 wc_8 zd_76 zj_76_1 c9_8 zr_76_1 (by decide) dX8_inkOf_6 ?_
    refine zv_iconst (v := (1 : Int32)) hX dX8_inkOf_9 zi_i_1 ?_
    refine zv_iald hX dX8_inkOf_10 (fun x3 => ?_)
    refine zv_icmp_ge (tgt := 48) hX dX8_inkOf_11 rfl ?_ ?_
    · refine zv_iload_n hX dX8_inkOf_48 2 rfl ?_
      exact zv_ireti hX hT dX8_inkOf_49
    · refine zv_iload_n hX dX8_inkOf_14 2 rfl ?_
      refine zv_iload_n hX dX8_inkOf_15 1 rfl ?_
      refine zv_i2l hX dX8_inkOf_16 ?_
      refine zv_iload_n hX dX8_inkOf_17 3 rfl ?_
      refine zv_cSI [.long (v1.toInt64), .int v3] (rest := [.int v2]) hX hT.2.2.2.2 (c_X8_isIn (zx_Y X) (v1.toInt64) v3 s) wv_X8_isIn wm_X8_223 rfl (Nat.le_of_ble_eq_true rfl) (Nat.le_of_ble_eq_true rfl) rfl (Nat.le_of_ble_eq_true rfl) dX8_inkOf_18 (fun r4 s5 => ?_)
      refine zv_if_eq (tgt := 39) hX dX8_inkOf_21 rfl ?_ ?_
      · refine zv_iconst (v := (0 : Int32)) hX dX8_inkOf_39 zi_i_0 ?_
        exact zv_sub [0, 1, 3] rfl (b_X8_inkOf_40 hX hT ih v1 v3 (0 : Int32) v2 s5)
      · refine zv_aload_n hX dX8_inkOf_24 0 rfl ?_
        refine zv_geta hX wf_X8_13 wc_8 zd_76 zj_76_1 c9_8 zr_76_1 (by decide) dX8_inkOf_25 ?_
        refine zv_bipush (v := (nI 29)) hX dX8_inkOf_28 zi_b_29 ?_
        refine zv_iload_n hX dX8_inkOf_30 3 rfl ?_
        refine zv_iadd hX dX8_inkOf_31 ?_
        refine zv_iald hX dX8_inkOf_32 (fun x6 => ?_)
        refine zv_cSI [.int x6] (rest := [.int v2]) hX hT.2.2.2.2 (c_X8_bitsOf (zx_Y X) x6 s5) wv_X8_bitsOf wm_X8_233 rfl (Nat.le_of_ble_eq_true rfl) (Nat.le_of_ble_eq_true rfl) rfl (Nat.le_of_ble_eq_true rfl) dX8_inkOf_33 (fun r7 s8 => ?_)
        refine zv_goto (tgt := 40) hX dX8_inkOf_36 rfl ?_
        exact zv_sub [0, 1, 3] rfl (b_X8_inkOf_40 hX hT ih v1 v3 r7 v2 s8)
def f_X8_inkOf (v1 : Int32) (s : zS) : Option (Int32 × zS) :=
  f_X8_inkOf_4 zFU v1 (0 : Int32) (0 : Int32) s
set_option maxRecDepth 20000 in
theorem c_X8_inkOf (Y : zG) (v1 : Int32) (s : zS) : zM Y yX8_inkOf cX8_inkOf 4 (some .int) (zR 1 22) [.ref (zy_a Y 76), .int v1] s zrI (f_X8_inkOf v1 s) := by
  refine zm_start (by decide +kernel) (Nat.le_of_ble_eq_true rfl) ?_
  intro X hY hT hX
  subst hY
  have hX : zx_ok X cX8_inkOf RX8 4 := hX
  show zV X (zq X zrI) 4 0 [(0, .ref (zx_ad X 76)), (1, .int v1)] [] s _
  unfold f_X8_inkOf
  refine zv_iconst (v := (0 : Int32)) hX dX8_inkOf_0 zi_i_0 ?_
  refine zv_istore_n (lv' := [(2, .int (0 : Int32)), (0, .ref (zx_ad X 76)), (1, .int v1)]) hX dX8_inkOf_1 (by decide) rfl ?_
  refine zv_iconst (v := (0 : Int32)) hX dX8_inkOf_2 zi_i_0 ?_
  refine zv_istore_n (lv' := [(3, .int (0 : Int32)), (2, .int (0 : Int32)), (0, .ref (zx_ad X 76)), (1, .int v1)]) hX dX8_inkOf_3 (by decide) rfl ?_
  exact zv_sub [2, 3, 1, 0] rfl (b_X8_inkOf_4 hX hT zFU v1 (0 : Int32) (0 : Int32) s)
theorem dX8_fitsSet_0 : decode cX8_fitsSet 0 = .ok (.iload_n 1, 1) := by decide +kernel
theorem dX8_fitsSet_1 : decode cX8_fitsSet 1 = .ok (.invokestatic 233, 3) := by decide +kernel
theorem dX8_fitsSet_4 : decode cX8_fitsSet 4 = .ok (.istore_n 2, 1) := by decide +kernel
theorem dX8_fitsSet_5 : decode cX8_fitsSet 5 = .ok (.iload_n 2, 1) := by decide +kernel
theorem dX8_fitsSet_6 : decode cX8_fitsSet 6 = .ok (.iconst 4, 1) := by decide +kernel
theorem dX8_fitsSet_7 : decode cX8_fitsSet 7 = .ok (.if_icmp .gt 25, 3) := by decide +kernel
theorem dX8_fitsSet_10 : decode cX8_fitsSet 10 = .ok (.aload_n 0, 1) := by decide +kernel
theorem dX8_fitsSet_11 : decode cX8_fitsSet 11 = .ok (.aload_n 0, 1) := by decide +kernel
theorem dX8_fitsSet_12 : decode cX8_fitsSet 12 = .ok (.iload_n 1, 1) := by decide +kernel
theorem dX8_fitsSet_13 : decode cX8_fitsSet 13 = .ok (.invokevirtual 247, 3) := by decide +kernel
theorem dX8_fitsSet_16 : decode cX8_fitsSet 16 = .ok (.aload_n 0, 1) := by decide +kernel
theorem dX8_fitsSet_17 : decode cX8_fitsSet 17 = .ok (.iload_n 1, 1) := by decide +kernel
theorem dX8_fitsSet_18 : decode cX8_fitsSet 18 = .ok (.invokevirtual 261, 3) := by decide +kernel
theorem dX8_fitsSet_21 : decode cX8_fitsSet 21 = .ok (.iload_n 2, 1) := by decide +kernel
theorem dX8_fitsSet_22 : decode cX8_fitsSet 22 = .ok (.invokevirtual 264, 3) := by decide +kernel
theorem dX8_fitsSet_25 : decode cX8_fitsSet 25 = .ok (.ifCond .eq 7, 3) := by decide +kernel
theorem dX8_fitsSet_28 : decode cX8_fitsSet 28 = .ok (.iconst 1, 1) := by decide +kernel
theorem dX8_fitsSet_29 : decode cX8_fitsSet 29 = .ok (.goto 4, 3) := by decide +kernel
theorem dX8_fitsSet_32 : decode cX8_fitsSet 32 = .ok (.iconst 0, 1) := by decide +kernel
theorem dX8_fitsSet_33 : decode cX8_fitsSet 33 = .ok (.ireturn, 1) := by decide +kernel
def f_X8_fitsSet_33 (w0 : Int32) (s : zS) : Option (Int32 × zS) :=
  if w0 = 0 ∨ w0 = 1 then some (w0, s) else none
set_option maxRecDepth 20000 in
theorem b_X8_fitsSet_33 {X : zX} (hX : zx_ok X cX8_fitsSet RX8 3) (hT : zx_rt X (some .boolean) (zR 68 1691)) : ∀ (w0 : Int32) (s : zS), zV X (zq X zrI) 3 33 [] [.int w0] s (f_X8_fitsSet_33 w0 s) := by
  intro w0 s
  unfold f_X8_fitsSet_33
  exact zv_iretzB hX hT dX8_fitsSet_33
def f_X8_fitsSet_32  (s : zS) : Option (Int32 × zS) :=
  f_X8_fitsSet_33 (0 : Int32) s
set_option maxRecDepth 20000 in
theorem b_X8_fitsSet_32 {X : zX} (hX : zx_ok X cX8_fitsSet RX8 3) (hT : zx_rt X (some .boolean) (zR 68 1691)) : ∀  (s : zS), zV X (zq X zrI) 3 32 [] [] s (f_X8_fitsSet_32  s) := by
  intro  s
  unfold f_X8_fitsSet_32
  refine zv_iconst (v := (0 : Int32)) hX dX8_fitsSet_32 zi_i_0 ?_
  exact b_X8_fitsSet_33 hX hT (0 : Int32) s
def f_X8_fitsSet (v1 : Int32) (s : zS) : Option (Int32 × zS) :=
  zbd (f_X8_bitsOf v1 s) fun r1 s2 =>
  if (nI 4) < r1 then
  (f_X8_fitsSet_32 s2)
  else
  zbd (f_X8_laysSet v1 s2) fun r3 s4 =>
  zbd (f_X8_inkOf v1 s4) fun r5 s6 =>
  zbd (f_X8_fitsBy r3 r5 r1 s6) fun r7 s8 =>
  if r7 = 0 then
  (f_X8_fitsSet_32 s8)
  else
  f_X8_fitsSet_33 (1 : Int32) s8
set_option maxRecDepth 20000 in
theorem c_X8_fitsSet (Y : zG) (v1 : Int32) (s : zS) : zM Y yX8_fitsSet cX8_fitsSet 3 (some .boolean) (zR 68 1691) [.ref (zy_a Y 76), .int v1] s zrI (f_X8_fitsSet v1 s) := by
  refine zm_start (by decide +kernel) (Nat.le_of_ble_eq_true rfl) ?_
  intro X hY hT hX
  subst hY
  have hX : zx_ok X cX8_fitsSet RX8 3 := hX
  show zV X (zq X zrI) 3 0 [(0, .ref (zx_ad X 76)), (1, .int v1)] [] s _
  unfold f_X8_fitsSet
  refine zv_iload_n hX dX8_fitsSet_0 1 rfl ?_
  refine zv_cSI [.int v1] (rest := []) hX hT.2.2.2.2 (c_X8_bitsOf (zx_Y X) v1 s) wv_X8_bitsOf wm_X8_233 rfl (Nat.le_of_ble_eq_true rfl) (Nat.le_of_ble_eq_true rfl) rfl (Nat.le_of_ble_eq_true rfl) dX8_fitsSet_1 (fun r1 s2 => ?_)
  refine zv_istore_n (lv' := [(2, .int r1), (0, .ref (zx_ad X 76)), (1, .int v1)]) hX dX8_fitsSet_4 (by decide) rfl ?_
  refine zv_iload_n hX dX8_fitsSet_5 0 rfl ?_
  refine zv_iconst (v := (nI 4)) hX dX8_fitsSet_6 zi_i_4 ?_
  refine zv_icmp_gt (tgt := 32) hX dX8_fitsSet_7 rfl ?_ ?_
  · exact zv_sub [] rfl (b_X8_fitsSet_32 hX hT  s2)
  · refine zv_aload_n hX dX8_fitsSet_10 1 rfl ?_
    refine zv_aload_n hX dX8_fitsSet_11 1 rfl ?_
    refine zv_iload_n hX dX8_fitsSet_12 2 rfl ?_
    refine zv_cVI [.int v1] (rest := [.ref (zx_ad X 76)]) hX hT.2.2.2.2 (c_X8_laysSet (zx_Y X) v1 s2) wv_X8_laysSet c9_8 zd_76 wm_X8_247 rfl (Nat.le_of_ble_eq_true rfl) (Nat.le_of_ble_eq_true rfl) rfl (Nat.le_of_ble_eq_true rfl) dX8_fitsSet_13 (fun r3 s4 => ?_)
    refine zv_aload_n hX dX8_fitsSet_16 1 rfl ?_
    refine zv_iload_n hX dX8_fitsSet_17 2 rfl ?_
    refine zv_cVI [.int v1] (rest := [.int r3, .ref (zx_ad X 76)]) hX hT.2.2.2.2 (c_X8_inkOf (zx_Y X) v1 s4) wv_X8_inkOf c9_8 zd_76 wm_X8_261 rfl (Nat.le_of_ble_eq_true rfl) (Nat.le_of_ble_eq_true rfl) rfl (Nat.le_of_ble_eq_true rfl) dX8_fitsSet_18 (fun r5 s6 => ?_)
    refine zv_iload_n hX dX8_fitsSet_21 0 rfl ?_
    refine zv_cVI [.int r3, .int r5, .int r1] (rest := []) hX hT.2.2.2.2 (c_X8_fitsBy (zx_Y X) r3 r5 r1 s6) wv_X8_fitsBy c9_8 zd_76 wm_X8_264 rfl (Nat.le_of_ble_eq_true rfl) (Nat.le_of_ble_eq_true rfl) rfl (Nat.le_of_ble_eq_true rfl) dX8_fitsSet_22 (fun r7 s8 => ?_)
    refine zv_if_eq (tgt := 32) hX dX8_fitsSet_25 rfl ?_ ?_
    · exact zv_sub [] rfl (b_X8_fitsSet_32 hX hT  s8)
    · refine zv_iconst (v := (1 : Int32)) hX dX8_fitsSet_28 zi_i_1 ?_
      refine zv_goto (tgt := 33) hX dX8_fitsSet_29 rfl ?_
      exact zv_sub [] rfl (b_X8_fitsSet_33 hX hT (1 : Int32) s8)
theorem dX8_laysFits_0 : decode cX8_laysFits 0 = .ok (.iconst 1, 1) := by decide +kernel
theorem dX8_laysFits_1 : decode cX8_laysFits 1 = .ok (.istore_n 1, 1) := by decide +kernel
theorem dX8_laysFits_2 : decode cX8_laysFits 2 = .ok (.iload_n 1, 1) := by decide +kernel
theorem dX8_laysFits_3 : decode cX8_laysFits 3 = .ok (.iconst 1, 1) := by decide +kernel
theorem dX8_laysFits_4 : decode cX8_laysFits 4 = .ok (.aload_n 0, 1) := by decide +kernel
theorem dX8_laysFits_5 : decode cX8_laysFits 5 = .ok (.getfield 13, 3) := by decide +kernel
theorem dX8_laysFits_8 : decode cX8_laysFits 8 = .ok (.iconst 1, 1) := by decide +kernel
theorem dX8_laysFits_9 : decode cX8_laysFits 9 = .ok (.iaload, 1) := by decide +kernel
theorem dX8_laysFits_10 : decode cX8_laysFits 10 = .ok (.ishl, 1) := by decide +kernel
theorem dX8_laysFits_11 : decode cX8_laysFits 11 = .ok (.if_icmp .ge 20, 3) := by decide +kernel
theorem dX8_laysFits_14 : decode cX8_laysFits 14 = .ok (.aload_n 0, 1) := by decide +kernel
theorem dX8_laysFits_15 : decode cX8_laysFits 15 = .ok (.getfield 69, 3) := by decide +kernel
theorem dX8_laysFits_18 : decode cX8_laysFits 18 = .ok (.iload_n 1, 1) := by decide +kernel
theorem dX8_laysFits_19 : decode cX8_laysFits 19 = .ok (.aload_n 0, 1) := by decide +kernel
theorem dX8_laysFits_20 : decode cX8_laysFits 20 = .ok (.iload_n 1, 1) := by decide +kernel
theorem dX8_laysFits_21 : decode cX8_laysFits 21 = .ok (.invokevirtual 414, 3) := by decide +kernel
theorem dX8_laysFits_24 : decode cX8_laysFits 24 = .ok (.bastore, 1) := by decide +kernel
theorem dX8_laysFits_25 : decode cX8_laysFits 25 = .ok (.iinc 1 1, 3) := by decide +kernel
theorem dX8_laysFits_28 : decode cX8_laysFits 28 = .ok (.goto (-26), 3) := by decide +kernel
theorem dX8_laysFits_31 : decode cX8_laysFits 31 = .ok (.return_, 1) := by decide +kernel
def f_X8_laysFits_2 : Nat → Int32 → zS → Option (Unit × zS)
  | 0, _, _ => none
  | n + 1, v1, s =>
    (zr_i s 77 (1 : Int32)).bind fun x1 =>
    if (zo_shl (1 : Int32) x1) ≤ v1 then
    (some ((), s))
    else
    zbd (f_X8_fitsSet v1 s) fun r2 s3 =>
    (zw_b s3 94 v1 r2).bind fun s4 =>
    zb (v1 + (1 : Int32)) fun x5 =>
    f_X8_laysFits_2 n x5 s4
set_option maxRecDepth 20000 in
theorem b_X8_laysFits_2 {X : zX} (hX : zx_ok X cX8_laysFits RX8 2) (hT : zx_rt X none (zR 69 1713)) : ∀ (n : Nat) (v1 : Int32) (s : zS), zV X (zq X zrV) 2 2 [(0, .ref (zx_ad X 76)), (1, .int v1)] [] s (f_X8_laysFits_2 n v1 s) := by
  intro n
  induction n with
  | zero => intro v1 s; exact zv_none
  | succ n ih =>
    intro v1 s
    rw [f_X8_laysFits_2]
    refine zv_iload_n hX dX8_laysFits_2 1 rfl ?_
    refine zv_iconst (v := (1 : Int32)) hX dX8_laysFits_3 zi_i_1 ?_
    refine zv_aload_n hX dX8_laysFits_4 0 rfl ?_
    refine zv_geta hX wf_X8_13 wc_8 zd_76 zj_76_1 c9_8 zr_76_1 (by decide) dX8_laysFits_5 ?_
    refine zv_iconst (v := (1 : Int32)) hX dX8_laysFits_8 zi_i_1 ?_
    refine zv_iald hX dX8_laysFits_9 (fun x1 => ?_)
    refine zv_ishl hX dX8_laysFits_10 ?_
    refine zv_icmp_ge (tgt := 31) hX dX8_laysFits_11 rfl ?_ ?_
    · exact zv_vret hX hT dX8_laysFits_31
    · refine zv_aload_n hX dX8_laysFits_14 0 rfl ?_
      refine zv_geta hX wf_X8_69 wc_8 zd_76 zj_76_35 c9_8 zr_76_35 (by decide) dX8_laysFits_15 ?_
      refine zv_iload_n hX dX8_laysFits_18 1 rfl ?_
      refine zv_aload_n hX dX8_laysFits_19 0 rfl ?_
      refine zv_iload_n hX dX8_laysFits_20 1 rfl ?_
      refine zv_cVI [.int v1] (rest := [.int v1, .ref (zx_ad X 94)]) hX hT.2.2.2.2 (c_X8_fitsSet (zx_Y X) v1 s) wv_X8_fitsSet c9_8 zd_76 wm_X8_414 rfl (Nat.le_of_ble_eq_true rfl) (Nat.le_of_ble_eq_true rfl) rfl (Nat.le_of_ble_eq_true rfl) dX8_laysFits_21 (fun r2 s3 => ?_)
      refine zv_bast hX dX8_laysFits_24 (fun s4 => ?_)
      refine zv_iincB (lw := fun x5 => [(1, .int x5), (0, .ref (zx_ad X 76))]) hX dX8_laysFits_25 1 rfl zi_i_1 (by decide) (fun _ => rfl) (fun x5 => ?_)
      refine zv_goto (tgt := 2) hX dX8_laysFits_28 rfl ?_
      exact zv_sub [1, 0] rfl (ih x5 s4)
def f_X8_laysFits  (s : zS) : Option (Unit × zS) :=
  f_X8_laysFits_2 zFU (1 : Int32) s
set_option maxRecDepth 20000 in
theorem c_X8_laysFits (Y : zG)  (s : zS) : zM Y yX8_laysFits cX8_laysFits 2 none (zR 69 1713) [.ref (zy_a Y 76)] s zrV (f_X8_laysFits  s) := by
  refine zm_start (by decide +kernel) (Nat.le_of_ble_eq_true rfl) ?_
  intro X hY hT hX
  subst hY
  have hX : zx_ok X cX8_laysFits RX8 2 := hX
  show zV X (zq X zrV) 2 0 [(0, .ref (zx_ad X 76))] [] s _
  unfold f_X8_laysFits
  refine zv_iconst (v := (1 : Int32)) hX dX8_laysFits_0 zi_i_1 ?_
  refine zv_istore_n (lv' := [(1, .int (1 : Int32)), (0, .ref (zx_ad X 76))]) hX dX8_laysFits_1 (by decide) rfl ?_
  exact zv_sub [1, 0] rfl (b_X8_laysFits_2 hX hT zFU (1 : Int32) s)
theorem dX8_laysGame_0 : decode cX8_laysGame 0 = .ok (.aload_n 0, 1) := by decide +kernel
theorem dX8_laysGame_1 : decode cX8_laysGame 1 = .ok (.invokevirtual 417, 3) := by decide +kernel
theorem dX8_laysGame_4 : decode cX8_laysGame 4 = .ok (.iconst 1, 1) := by decide +kernel
theorem dX8_laysGame_5 : decode cX8_laysGame 5 = .ok (.aload_n 0, 1) := by decide +kernel
theorem dX8_laysGame_6 : decode cX8_laysGame 6 = .ok (.getfield 13, 3) := by decide +kernel
theorem dX8_laysGame_9 : decode cX8_laysGame 9 = .ok (.iconst 1, 1) := by decide +kernel
theorem dX8_laysGame_10 : decode cX8_laysGame 10 = .ok (.iaload, 1) := by decide +kernel
theorem dX8_laysGame_11 : decode cX8_laysGame 11 = .ok (.ishl, 1) := by decide +kernel
theorem dX8_laysGame_12 : decode cX8_laysGame 12 = .ok (.iconst 1, 1) := by decide +kernel
theorem dX8_laysGame_13 : decode cX8_laysGame 13 = .ok (.isub, 1) := by decide +kernel
theorem dX8_laysGame_14 : decode cX8_laysGame 14 = .ok (.istore_n 1, 1) := by decide +kernel
theorem dX8_laysGame_15 : decode cX8_laysGame 15 = .ok (.iload_n 1, 1) := by decide +kernel
theorem dX8_laysGame_16 : decode cX8_laysGame 16 = .ok (.ifCond .lt 150, 3) := by decide +kernel
theorem dX8_laysGame_19 : decode cX8_laysGame 19 = .ok (.ldc 243, 2) := by decide +kernel
theorem dX8_laysGame_21 : decode cX8_laysGame 21 = .ok (.istore_n 2, 1) := by decide +kernel
theorem dX8_laysGame_22 : decode cX8_laysGame 22 = .ok (.iconst 0, 1) := by decide +kernel
theorem dX8_laysGame_23 : decode cX8_laysGame 23 = .ok (.istore_n 3, 1) := by decide +kernel
theorem dX8_laysGame_24 : decode cX8_laysGame 24 = .ok (.iconst 0, 1) := by decide +kernel
theorem dX8_laysGame_25 : decode cX8_laysGame 25 = .ok (.istore 4, 2) := by decide +kernel
theorem dX8_laysGame_27 : decode cX8_laysGame 27 = .ok (.iload 4, 2) := by decide +kernel
theorem dX8_laysGame_29 : decode cX8_laysGame 29 = .ok (.aload_n 0, 1) := by decide +kernel
theorem dX8_laysGame_30 : decode cX8_laysGame 30 = .ok (.getfield 13, 3) := by decide +kernel
theorem dX8_laysGame_33 : decode cX8_laysGame 33 = .ok (.iconst 1, 1) := by decide +kernel
theorem dX8_laysGame_34 : decode cX8_laysGame 34 = .ok (.iaload, 1) := by decide +kernel
theorem dX8_laysGame_35 : decode cX8_laysGame 35 = .ok (.if_icmp .ge 105, 3) := by decide +kernel
theorem dX8_laysGame_38 : decode cX8_laysGame 38 = .ok (.iload_n 1, 1) := by decide +kernel
theorem dX8_laysGame_39 : decode cX8_laysGame 39 = .ok (.iconst 1, 1) := by decide +kernel
theorem dX8_laysGame_40 : decode cX8_laysGame 40 = .ok (.iload 4, 2) := by decide +kernel
theorem dX8_laysGame_42 : decode cX8_laysGame 42 = .ok (.ishl, 1) := by decide +kernel
theorem dX8_laysGame_43 : decode cX8_laysGame 43 = .ok (.ior, 1) := by decide +kernel
theorem dX8_laysGame_44 : decode cX8_laysGame 44 = .ok (.istore 5, 2) := by decide +kernel
theorem dX8_laysGame_46 : decode cX8_laysGame 46 = .ok (.iload_n 1, 1) := by decide +kernel
theorem dX8_laysGame_47 : decode cX8_laysGame 47 = .ok (.i2l, 1) := by decide +kernel
theorem dX8_laysGame_48 : decode cX8_laysGame 48 = .ok (.iload 4, 2) := by decide +kernel
theorem dX8_laysGame_50 : decode cX8_laysGame 50 = .ok (.invokestatic 223, 3) := by decide +kernel
theorem dX8_laysGame_53 : decode cX8_laysGame 53 = .ok (.ifCond .ne 81, 3) := by decide +kernel
theorem dX8_laysGame_56 : decode cX8_laysGame 56 = .ok (.aload_n 0, 1) := by decide +kernel
theorem dX8_laysGame_57 : decode cX8_laysGame 57 = .ok (.getfield 69, 3) := by decide +kernel
theorem dX8_laysGame_60 : decode cX8_laysGame 60 = .ok (.iload 5, 2) := by decide +kernel
theorem dX8_laysGame_62 : decode cX8_laysGame 62 = .ok (.baload, 1) := by decide +kernel
theorem dX8_laysGame_63 : decode cX8_laysGame 63 = .ok (.ifCond .ne 6, 3) := by decide +kernel
theorem dX8_laysGame_66 : decode cX8_laysGame 66 = .ok (.goto 68, 3) := by decide +kernel
theorem dX8_laysGame_69 : decode cX8_laysGame 69 = .ok (.aload_n 0, 1) := by decide +kernel
theorem dX8_laysGame_70 : decode cX8_laysGame 70 = .ok (.getfield 72, 3) := by decide +kernel
theorem dX8_laysGame_73 : decode cX8_laysGame 73 = .ok (.iload 5, 2) := by decide +kernel
theorem dX8_laysGame_75 : decode cX8_laysGame 75 = .ok (.iaload, 1) := by decide +kernel
theorem dX8_laysGame_76 : decode cX8_laysGame 76 = .ok (.ifCond .ge 31, 3) := by decide +kernel
theorem dX8_laysGame_79 : decode cX8_laysGame 79 = .ok (.aload_n 0, 1) := by decide +kernel
theorem dX8_laysGame_80 : decode cX8_laysGame 80 = .ok (.getfield 72, 3) := by decide +kernel
theorem dX8_laysGame_83 : decode cX8_laysGame 83 = .ok (.iload 5, 2) := by decide +kernel
theorem dX8_laysGame_85 : decode cX8_laysGame 85 = .ok (.iaload, 1) := by decide +kernel
theorem dX8_laysGame_86 : decode cX8_laysGame 86 = .ok (.ineg, 1) := by decide +kernel
theorem dX8_laysGame_87 : decode cX8_laysGame 87 = .ok (.iload_n 2, 1) := by decide +kernel
theorem dX8_laysGame_88 : decode cX8_laysGame 88 = .ok (.if_icmp .ge 14, 3) := by decide +kernel
theorem dX8_laysGame_91 : decode cX8_laysGame 91 = .ok (.aload_n 0, 1) := by decide +kernel
theorem dX8_laysGame_92 : decode cX8_laysGame 92 = .ok (.getfield 72, 3) := by decide +kernel
theorem dX8_laysGame_95 : decode cX8_laysGame 95 = .ok (.iload 5, 2) := by decide +kernel
theorem dX8_laysGame_97 : decode cX8_laysGame 97 = .ok (.iaload, 1) := by decide +kernel
theorem dX8_laysGame_98 : decode cX8_laysGame 98 = .ok (.ineg, 1) := by decide +kernel
theorem dX8_laysGame_99 : decode cX8_laysGame 99 = .ok (.goto 4, 3) := by decide +kernel
theorem dX8_laysGame_102 : decode cX8_laysGame 102 = .ok (.iload_n 2, 1) := by decide +kernel
theorem dX8_laysGame_103 : decode cX8_laysGame 103 = .ok (.istore_n 2, 1) := by decide +kernel
theorem dX8_laysGame_104 : decode cX8_laysGame 104 = .ok (.goto 30, 3) := by decide +kernel
theorem dX8_laysGame_107 : decode cX8_laysGame 107 = .ok (.aload_n 0, 1) := by decide +kernel
theorem dX8_laysGame_108 : decode cX8_laysGame 108 = .ok (.getfield 72, 3) := by decide +kernel
theorem dX8_laysGame_111 : decode cX8_laysGame 111 = .ok (.iload 5, 2) := by decide +kernel
theorem dX8_laysGame_113 : decode cX8_laysGame 113 = .ok (.iaload, 1) := by decide +kernel
theorem dX8_laysGame_114 : decode cX8_laysGame 114 = .ok (.iconst 1, 1) := by decide +kernel
theorem dX8_laysGame_115 : decode cX8_laysGame 115 = .ok (.iadd, 1) := by decide +kernel
theorem dX8_laysGame_116 : decode cX8_laysGame 116 = .ok (.iload_n 3, 1) := by decide +kernel
theorem dX8_laysGame_117 : decode cX8_laysGame 117 = .ok (.if_icmp .le 15, 3) := by decide +kernel
theorem dX8_laysGame_120 : decode cX8_laysGame 120 = .ok (.aload_n 0, 1) := by decide +kernel
theorem dX8_laysGame_121 : decode cX8_laysGame 121 = .ok (.getfield 72, 3) := by decide +kernel
theorem dX8_laysGame_124 : decode cX8_laysGame 124 = .ok (.iload 5, 2) := by decide +kernel
theorem dX8_laysGame_126 : decode cX8_laysGame 126 = .ok (.iaload, 1) := by decide +kernel
theorem dX8_laysGame_127 : decode cX8_laysGame 127 = .ok (.iconst 1, 1) := by decide +kernel
theorem dX8_laysGame_128 : decode cX8_laysGame 128 = .ok (.iadd, 1) := by decide +kernel
theorem dX8_laysGame_129 : decode cX8_laysGame 129 = .ok (.goto 4, 3) := by decide +kernel
theorem dX8_laysGame_132 : decode cX8_laysGame 132 = .ok (.iload_n 3, 1) := by decide +kernel
theorem dX8_laysGame_133 : decode cX8_laysGame 133 = .ok (.istore_n 3, 1) := by decide +kernel
theorem dX8_laysGame_134 : decode cX8_laysGame 134 = .ok (.iinc 4 1, 3) := by decide +kernel
theorem dX8_laysGame_137 : decode cX8_laysGame 137 = .ok (.goto (-110), 3) := by decide +kernel
theorem dX8_laysGame_140 : decode cX8_laysGame 140 = .ok (.aload_n 0, 1) := by decide +kernel
theorem dX8_laysGame_141 : decode cX8_laysGame 141 = .ok (.getfield 72, 3) := by decide +kernel
theorem dX8_laysGame_144 : decode cX8_laysGame 144 = .ok (.iload_n 1, 1) := by decide +kernel
theorem dX8_laysGame_145 : decode cX8_laysGame 145 = .ok (.iload_n 2, 1) := by decide +kernel
theorem dX8_laysGame_146 : decode cX8_laysGame 146 = .ok (.ldc 243, 2) := by decide +kernel
theorem dX8_laysGame_148 : decode cX8_laysGame 148 = .ok (.if_icmp .ge 7, 3) := by decide +kernel
theorem dX8_laysGame_151 : decode cX8_laysGame 151 = .ok (.iload_n 2, 1) := by decide +kernel
theorem dX8_laysGame_152 : decode cX8_laysGame 152 = .ok (.goto 7, 3) := by decide +kernel
theorem dX8_laysGame_155 : decode cX8_laysGame 155 = .ok (.iload_n 3, 1) := by decide +kernel
theorem dX8_laysGame_156 : decode cX8_laysGame 156 = .ok (.ineg, 1) := by decide +kernel
theorem dX8_laysGame_157 : decode cX8_laysGame 157 = .ok (.iconst 1, 1) := by decide +kernel
theorem dX8_laysGame_158 : decode cX8_laysGame 158 = .ok (.isub, 1) := by decide +kernel
theorem dX8_laysGame_159 : decode cX8_laysGame 159 = .ok (.iastore, 1) := by decide +kernel
theorem dX8_laysGame_160 : decode cX8_laysGame 160 = .ok (.iinc 1 (-1), 3) := by decide +kernel
theorem dX8_laysGame_163 : decode cX8_laysGame 163 = .ok (.goto (-148), 3) := by decide +kernel
theorem dX8_laysGame_166 : decode cX8_laysGame 166 = .ok (.return_, 1) := by decide +kernel
def f_X8_laysGame_159 (kb_15 : Int32 → zS → Option (Unit × zS)) (v1 : Int32) (w0 : Int32) (w1 : Int32) (s : zS) : Option (Unit × zS) :=
  (zw_i s 95 w1 w0).bind fun s1 =>
  zb (v1 + (-1 : Int32)) fun x2 =>
  kb_15 x2 s1
set_option maxRecDepth 20000 in
theorem b_X8_laysGame_159 {X : zX} {kb_15 : Int32 → zS → Option (Unit × zS)} (hX : zx_ok X cX8_laysGame RX8 6) (hT : zx_rt X none (zR 70 1734)) (hk_15 : ∀ (v1 : Int32) (s : zS), zV X (zq X zrV) 6 15 [(0, .ref (zx_ad X 76)), (1, .int v1)] [] s (kb_15 v1 s)) : ∀ (v1 : Int32) (w0 : Int32) (w1 : Int32) (s : zS), zV X (zq X zrV) 6 159 [(0, .ref (zx_ad X 76)), (1, .int v1)] [.int w0, .int w1, .ref (zx_ad X 95)] s (f_X8_laysGame_159 kb_15 v1 w0 w1 s) := by
  intro v1 w0 w1 s
  unfold f_X8_laysGame_159
  refine zv_iast hX dX8_laysGame_159 (fun s1 => ?_)
  refine zv_iincB (lw := fun x2 => [(1, .int x2), (0, .ref (zx_ad X 76))]) hX dX8_laysGame_160 1 rfl zi_i_m1 (by decide) (fun _ => rfl) (fun x2 => ?_)
  refine zv_goto (tgt := 15) hX dX8_laysGame_163 rfl ?_
  exact zv_sub [1, 0] rfl (hk_15 x2 s1)
def f_X8_laysGame_134 (kb_15 : Int32 → zS → Option (Unit × zS)) (kb_27 : Int32 → Int32 → Int32 → Int32 → zS → Option (Unit × zS)) (v1 : Int32) (v2 : Int32) (v3 : Int32) (v4 : Int32) (s : zS) : Option (Unit × zS) :=
  zb (v4 + (1 : Int32)) fun x3 =>
  kb_27 v1 v2 v3 x3 s
set_option maxRecDepth 20000 in
theorem b_X8_laysGame_134 {X : zX} {kb_15 : Int32 → zS → Option (Unit × zS)} {kb_27 : Int32 → Int32 → Int32 → Int32 → zS → Option (Unit × zS)} (hX : zx_ok X cX8_laysGame RX8 6) (hT : zx_rt X none (zR 70 1734)) (hk_15 : ∀ (v1 : Int32) (s : zS), zV X (zq X zrV) 6 15 [(0, .ref (zx_ad X 76)), (1, .int v1)] [] s (kb_15 v1 s)) (hk_27 : ∀ (v1 : Int32) (v2 : Int32) (v3 : Int32) (v4 : Int32) (s : zS), zV X (zq X zrV) 6 27 [(0, .ref (zx_ad X 76)), (1, .int v1), (2, .int v2), (3, .int v3), (4, .int v4)] [] s (kb_27 v1 v2 v3 v4 s)) : ∀ (v1 : Int32) (v2 : Int32) (v3 : Int32) (v4 : Int32) (s : zS), zV X (zq X zrV) 6 134 [(0, .ref (zx_ad X 76)), (1, .int v1), (2, .int v2), (3, .int v3), (4, .int v4)] [] s (f_X8_laysGame_134 kb_15 kb_27 v1 v2 v3 v4 s) := by
  intro v1 v2 v3 v4 s
  unfold f_X8_laysGame_134
  refine zv_iincB (lw := fun x3 => [(4, .int x3), (0, .ref (zx_ad X 76)), (1, .int v1), (2, .int v2), (3, .int v3)]) hX dX8_laysGame_134 4 rfl zi_i_1 (by decide) (fun _ => rfl) (fun x3 => ?_)
  refine zv_goto (tgt := 27) hX dX8_laysGame_137 rfl ?_
  exact zv_sub [1, 2, 3, 4, 0] rfl (hk_27 v1 v2 v3 x3 s)
def f_X8_laysGame_133 (kb_15 : Int32 → zS → Option (Unit × zS)) (kb_27 : Int32 → Int32 → Int32 → Int32 → zS → Option (Unit × zS)) (v1 : Int32) (v2 : Int32) (v4 : Int32) (w0 : Int32) (s : zS) : Option (Unit × zS) :=
  f_X8_laysGame_134 kb_15 kb_27 v1 v2 w0 v4 s
set_option maxRecDepth 20000 in
theorem b_X8_laysGame_133 {X : zX} {kb_15 : Int32 → zS → Option (Unit × zS)} {kb_27 : Int32 → Int32 → Int32 → Int32 → zS → Option (Unit × zS)} (hX : zx_ok X cX8_laysGame RX8 6) (hT : zx_rt X none (zR 70 1734)) (hk_15 : ∀ (v1 : Int32) (s : zS), zV X (zq X zrV) 6 15 [(0, .ref (zx_ad X 76)), (1, .int v1)] [] s (kb_15 v1 s)) (hk_27 : ∀ (v1 : Int32) (v2 : Int32) (v3 : Int32) (v4 : Int32) (s : zS), zV X (zq X zrV) 6 27 [(0, .ref (zx_ad X 76)), (1, .int v1), (2, .int v2), (3, .int v3), (4, .int v4)] [] s (kb_27 v1 v2 v3 v4 s)) : ∀ (v1 : Int32) (v2 : Int32) (v4 : Int32) (w0 : Int32) (s : zS), zV X (zq X zrV) 6 133 [(0, .ref (zx_ad X 76)), (1, .int v1), (2, .int v2), (4, .int v4)] [.int w0] s (f_X8_laysGame_133 kb_15 kb_27 v1 v2 v4 w0 s) := by
  intro v1 v2 v4 w0 s
  unfold f_X8_laysGame_133
  refine zv_istore_n (lv' := [(3, .int w0), (0, .ref (zx_ad X 76)), (1, .int v1), (2, .int v2), (4, .int v4)]) hX dX8_laysGame_133 (by decide) rfl ?_
  exact zv_sub [1, 2, 3, 0, 4] rfl (b_X8_laysGame_134 hX hT hk_15 hk_27 v1 v2 w0 v4 s)
def f_X8_laysGame_103 (kb_15 : Int32 → zS → Option (Unit × zS)) (kb_27 : Int32 → Int32 → Int32 → Int32 → zS → Option (Unit × zS)) (v1 : Int32) (v3 : Int32) (v4 : Int32) (w0 : Int32) (s : zS) : Option (Unit × zS) :=
  f_X8_laysGame_134 kb_15 kb_27 v1 w0 v3 v4 s
set_option maxRecDepth 20000 in
theorem b_X8_laysGame_103 {X : zX} {kb_15 : Int32 → zS → Option (Unit × zS)} {kb_27 : Int32 → Int32 → Int32 → Int32 → zS → Option (Unit × zS)} (hX : zx_ok X cX8_laysGame RX8 6) (hT : zx_rt X none (zR 70 1734)) (hk_15 : ∀ (v1 : Int32) (s : zS), zV X (zq X zrV) 6 15 [(0, .ref (zx_ad X 76)), (1, .int v1)] [] s (kb_15 v1 s)) (hk_27 : ∀ (v1 : Int32) (v2 : Int32) (v3 : Int32) (v4 : Int32) (s : zS), zV X (zq X zrV) 6 27 [(0, .ref (zx_ad X 76)), (1, .int v1), (2, .int v2), (3, .int v3), (4, .int v4)] [] s (kb_27 v1 v2 v3 v4 s)) : ∀ (v1 : Int32) (v3 : Int32) (v4 : Int32) (w0 : Int32) (s : zS), zV X (zq X zrV) 6 103 [(0, .ref (zx_ad X 76)), (1, .int v1), (3, .int v3), (4, .int v4)] [.int w0] s (f_X8_laysGame_103 kb_15 kb_27 v1 v3 v4 w0 s) := by
  intro v1 v3 v4 w0 s
  unfold f_X8_laysGame_103
  refine zv_istore_n (lv' := [(2, .int w0), (0, .ref (zx_ad X 76)), (1, .int v1), (3, .int v3), (4, .int v4)]) hX dX8_laysGame_103 (by decide) rfl ?_
  refine zv_goto (tgt := 134) hX dX8_laysGame_104 rfl ?_
  exact zv_sub [1, 2, 0, 3, 4] rfl (b_X8_laysGame_134 hX hT hk_15 hk_27 v1 w0 v3 v4 s)
def f_X8_laysGame_27 (kb_15 : Int32 → zS → Option (Unit × zS)) : Nat → Int32 → Int32 → Int32 → Int32 → zS → Option (Unit × zS)
  | 0, _, _, _, _, _ => none
  | n + 1, v1, v2, v3, v4, s =>
    (zr_i s 77 (1 : Int32)).bind fun x4 =>
    if x4 ≤ v4 then
    (if (268435456 : Int32) ≤ v2 then
    (f_X8_laysGame_159 kb_15 v1 ((-v3) - (1 : Int32)) v1 s)
    else
    f_X8_laysGame_159 kb_15 v1 v2 v1 s)
    else
    zb (v1 ||| (zo_shl (1 : Int32) v4)) fun x5 =>
    zbd (f_X8_isIn (v1.toInt64) v4 s) fun r6 s7 =>
    if ¬ r6 = 0 then
    (f_X8_laysGame_134 kb_15 (f_X8_laysGame_27 kb_15 n) v1 v2 v3 v4 s7)
    else
    (zr_b s7 94 x5).bind fun x8 =>
    if ¬ x8 = 0 then
    ((zr_i s7 95 x5).bind fun x9 =>
    if 0 ≤ x9 then
    ((zr_i s7 95 x5).bind fun x10 =>
    if (x10 + (1 : Int32)) ≤ v3 then
    (f_X8_laysGame_133 kb_15 (f_X8_laysGame_27 kb_15 n) v1 v2 v4 v3 s7)
    else
    (zr_i s7 95 x5).bind fun x11 =>
    f_X8_laysGame_133 kb_15 (f_X8_laysGame_27 kb_15 n) v1 v2 v4 (x11 + (1 : Int32)) s7)
    else
    (zr_i s7 95 x5).bind fun x12 =>
    if v2 ≤ (-x12) then
    (f_X8_laysGame_103 kb_15 (f_X8_laysGame_27 kb_15 n) v1 v3 v4 v2 s7)
    else
    (zr_i s7 95 x5).bind fun x13 =>
    f_X8_laysGame_103 kb_15 (f_X8_laysGame_27 kb_15 n) v1 v3 v4 (-x13) s7)
    else
    f_X8_laysGame_134 kb_15 (f_X8_laysGame_27 kb_15 n) v1 v2 v3 v4 s7
set_option maxRecDepth 20000 in
theorem b_X8_laysGame_27 {X : zX} {kb_15 : Int32 → zS → Option (Unit × zS)} (hX : zx_ok X cX8_laysGame RX8 6) (hT : zx_rt X none (zR 70 1734)) (hk_15 : ∀ (v1 : Int32) (s : zS), zV X (zq X zrV) 6 15 [(0, .ref (zx_ad X 76)), (1, .int v1)] [] s (kb_15 v1 s)) : ∀ (n : Nat) (v1 : Int32) (v2 : Int32) (v3 : Int32) (v4 : Int32) (s : zS), zV X (zq X zrV) 6 27 [(0, .ref (zx_ad X 76)), (1, .int v1), (2, .int v2), (3, .int v3), (4, .int v4)] [] s (f_X8_laysGame_27 kb_15 n v1 v2 v3 v4 s) := by
  intro n
  induction n with
  | zero => intro v1 v2 v3 v4 s; exact zv_none
  | succ n ih =>
    intro v1 v2 v3 v4 s
    rw [f_X8_laysGame_27]
    refine zv_iload hX dX8_laysGame_27 4 rfl ?_
    refine zv_aload_n hX dX8_laysGame_29 0 rfl ?_
    refine zv_geta hX wf_X8_13 wc_8 zd_76 zj_76_1 c9_8 zr_76_1 (by decide) dX8_laysGame_30 ?_
    refine zv_iconst (v := (1 : Int32)) hX dX8_laysGame_33 zi_i_1 ?_
    refine zv_iald hX dX8_laysGame_34 (fun x4 => ?_)
    refine zv_icmp_ge (tgt := 140) hX dX8_laysGame_35 rfl ?_ ?_
    · refine zv_aload_n hX dX8_laysGame_140 0 rfl ?_
      refine zv_geta hX wf_X8_72 wc_8 zd_76 zj_76_36 c9_8 zr_76_36 (by decide) dX8_laysGame_141 ?_
      refine zv_iload_n hX dX8_laysGame_144 1 rfl ?_
      refine zv_iload_n hX dX8_laysGame_145 2 rfl ?_
      refine zv_ldc hX wn_X8_243 dX8_laysGame_146 ?_
      refine zv_icmp_ge (tgt := 155) hX dX8_laysGame_148 rfl ?_ ?_
      · refine zv_iload_n hX dX8_laysGame_155 3 rfl ?_
        refine zv_ineg hX dX8_laysGame_156 ?_
        refine zv_iconst (v := (1 : Int32)) hX dX8_laysGame_157 zi_i_1 ?_
        refine zv_isub hX dX8_laysGame_158 ?_
        exact zv_sub [0, 1] rfl (b_X8_laysGame_159 hX hT hk_15 v1 ((-v3) - (1 : Int32)) v1 s)
      · refine zv_iload_n hX dX8_laysGame_151 2 rfl ?_
        refine zv_goto (tgt := 159) hX dX8_laysGame_152 rfl ?_
        exact zv_sub [0, 1] rfl (b_X8_laysGame_159 hX hT hk_15 v1 v2 v1 s)
    · refine zv_iload_n hX dX8_laysGame_38 1 rfl ?_
      refine zv_iconst (v := (1 : Int32)) hX dX8_laysGame_39 zi_i_1 ?_
      refine zv_iload hX dX8_laysGame_40 4 rfl ?_
      refine zv_ishl hX dX8_laysGame_42 ?_
      refine zv_ior hX dX8_laysGame_43 ?_
      refine zv_istB (lw := fun x5 => [(5, .int x5), (0, .ref (zx_ad X 76)), (1, .int v1), (2, .int v2), (3, .int v3), (4, .int v4)]) hX dX8_laysGame_44 (by decide) (fun _ => rfl) (fun x5 => ?_)
      refine zv_iload_n hX dX8_laysGame_46 2 rfl ?_
      refine zv_i2l hX dX8_laysGame_47 ?_
      refine zv_iload hX dX8_laysGame_48 5 rfl ?_
      refine zv_cSI [.long (v1.toInt64), .int v4] (rest := []) hX hT.2.2.2.2 (c_X8_isIn (zx_Y X) (v1.toInt64) v4 s) wv_X8_isIn wm_X8_223 rfl (Nat.le_of_ble_eq_true rfl) (Nat.le_of_ble_eq_true rfl) rfl (Nat.le_of_ble_eq_true rfl) dX8_laysGame_50 (fun r6 s7 => ?_)
      refine zv_if_ne (tgt := 134) hX dX8_laysGame_53 rfl ?_ ?_
      · exact zv_sub [1, 2, 3, 4, 5] rfl (b_X8_laysGame_134 hX hT hk_15 ih v1 v2 v3 v4 s7)
      · refine zv_aload_n hX dX8_laysGame_56 1 rfl ?_
        refine zv_geta hX wf_X8_69 wc_8 zd_76 zj_76_35 c9_8 zr_76_35 (by decide) dX8_laysGame_57 ?_
        refine zv_iload hX dX8_laysGame_60 0 rfl ?_
        refine zv_bald hX dX8_laysGame_62 (fun x8 => ?_)
        refine zv_if_ne (tgt := 69) hX dX8_laysGame_63 rfl ?_ ?_
        · refine zv_aload_n hX dX8_laysGame_69 1 rfl ?_
          refine zv_geta hX wf_X8_72 wc_8 zd_76 zj_76_36 c9_8 zr_76_36 (by decide) dX8_laysGame_70 ?_
          refine zv_iload hX dX8_laysGame_73 0 rfl ?_
          refine zv_iald hX dX8_laysGame_75 (fun x9 => ?_)
          refine zv_if_ge (tgt := 107) hX dX8_laysGame_76 rfl ?_ ?_
          · refine zv_aload_n hX dX8_laysGame_107 1 rfl ?_
            refine zv_geta hX wf_X8_72 wc_8 zd_76 zj_76_36 c9_8 zr_76_36 (by decide) dX8_laysGame_108 ?_
            refine zv_iload hX dX8_laysGame_111 0 rfl ?_
            refine zv_iald hX dX8_laysGame_113 (fun x10 => ?_)
            refine zv_iconst (v := (1 : Int32)) hX dX8_laysGame_114 zi_i_1 ?_
            refine zv_iadd hX dX8_laysGame_115 ?_
            refine zv_iload_n hX dX8_laysGame_116 4 rfl ?_
            refine zv_icmp_le (tgt := 132) hX dX8_laysGame_117 rfl ?_ ?_
            · refine zv_iload_n hX dX8_laysGame_132 4 rfl ?_
              exact zv_sub [1, 2, 3, 5] rfl (b_X8_laysGame_133 hX hT hk_15 ih v1 v2 v4 v3 s7)
            · refine zv_aload_n hX dX8_laysGame_120 1 rfl ?_
              refine zv_geta hX wf_X8_72 wc_8 zd_76 zj_76_36 c9_8 zr_76_36 (by decide) dX8_laysGame_121 ?_
              refine zv_iload hX dX8_laysGame_124 0 rfl ?_
              refine zv_iald hX dX8_laysGame_126 (fun x11 => ?_)
              refine zv_iconst (v := (1 : Int32)) hX dX8_laysGame_127 zi_i_1 ?_
              refine zv_iadd hX dX8_laysGame_128 ?_
              refine zv_goto (tgt := 133) hX dX8_laysGame_129 rfl ?_
              exact zv_sub [1, 2, 3, 5] rfl (b_X8_laysGame_133 hX hT hk_15 ih v1 v2 v4 (x11 + (1 : Int32)) s7)
          · refine zv_aload_n hX dX8_laysGame_79 1 rfl ?_
            refine zv_geta hX wf_X8_72 wc_8 zd_76 zj_76_36 c9_8 zr_76_36 (by decide) dX8_laysGame_80 ?_
            refine zv_iload hX dX8_laysGame_83 0 rfl ?_
            refine zv_iald hX dX8_laysGame_85 (fun x12 => ?_)
            refine zv_ineg hX dX8_laysGame_86 ?_
            refine zv_iload_n hX dX8_laysGame_87 3 rfl ?_
            refine zv_icmp_ge (tgt := 102) hX dX8_laysGame_88 rfl ?_ ?_
            · refine zv_iload_n hX dX8_laysGame_102 3 rfl ?_
              exact zv_sub [1, 2, 4, 5] rfl (b_X8_laysGame_103 hX hT hk_15 ih v1 v3 v4 v2 s7)
            · refine zv_aload_n hX dX8_laysGame_91 1 rfl ?_
              refine zv_geta hX wf_X8_72 wc_8 zd_76 zj_76_36 c9_8 zr_76_36 (by decide) dX8_laysGame_92 ?_
              refine zv_iload hX dX8_laysGame_95 0 rfl ?_
              refine zv_iald hX dX8_laysGame_97 (fun x13 => ?_)
              refine zv_ineg hX dX8_laysGame_98 ?_
              refine zv_goto (tgt := 103) hX dX8_laysGame_99 rfl ?_
              exact zv_sub [1, 2, 4, 5] rfl (b_X8_laysGame_103 hX hT hk_15 ih v1 v3 v4 (-x13) s7)
        · refine zv_goto (tgt := 134) hX dX8_laysGame_66 rfl ?_
          exact zv_sub [1, 2, 3, 4, 5] rfl (b_X8_laysGame_134 hX hT hk_15 ih v1 v2 v3 v4 s7)
def f_X8_laysGame_15 : Nat → Int32 → zS → Option (Unit × zS)
  | 0, _, _ => none
  | n + 1, v1, s =>
    if v1 < 0 then
    (some ((), s))
    else
    f_X8_laysGame_27 (f_X8_laysGame_15 n) zFU v1 (268435456 : Int32) (0 : Int32) (0 : Int32) s
set_option maxRecDepth 20000 in
theorem b_X8_laysGame_15 {X : zX} (hX : zx_ok X cX8_laysGame RX8 6) (hT : zx_rt X none (zR 70 1734)) : ∀ (n : Nat) (v1 : Int32) (s : zS), zV X (zq X zrV) 6 15 [(0, .ref (zx_ad X 76)), (1, .int v1)] [] s (f_X8_laysGame_15 n v1 s) := by
  intro n
  induction n with
  | zero => intro v1 s; exact zv_none
  | succ n ih =>
    intro v1 s
    rw [f_X8_laysGame_15]
    refine zv_iload_n hX dX8_laysGame_15 1 rfl ?_
    refine zv_if_lt (tgt := 166) hX dX8_laysGame_16 rfl ?_ ?_
    · exact zv_vret hX hT dX8_laysGame_166
    · refine zv_ldc hX wn_X8_243 dX8_laysGame_19 ?_
      refine zv_istore_n (lv' := [(2, .int (268435456 : Int32)), (0, .ref (zx_ad X 76)), (1, .int v1)]) hX dX8_laysGame_21 (by decide) rfl ?_
      refine zv_iconst (v := (0 : Int32)) hX dX8_laysGame_22 zi_i_0 ?_
      refine zv_istore_n (lv' := [(3, .int (0 : Int32)), (2, .int (268435456 : Int32)), (0, .ref (zx_ad X 76)), (1, .int v1)]) hX dX8_laysGame_23 (by decide) rfl ?_
      refine zv_iconst (v := (0 : Int32)) hX dX8_laysGame_24 zi_i_0 ?_
      refine zv_istore (lv' := [(4, .int (0 : Int32)), (3, .int (0 : Int32)), (2, .int (268435456 : Int32)), (0, .ref (zx_ad X 76)), (1, .int v1)]) hX dX8_laysGame_25 (by decide) rfl ?_
      exact zv_sub [3, 4, 2, 1, 0] rfl (b_X8_laysGame_27 hX hT ih zFU v1 (268435456 : Int32) (0 : Int32) (0 : Int32) s)
def f_X8_laysGame  (s : zS) : Option (Unit × zS) :=
  zbd (f_X8_laysFits s) fun _ s14 =>
  (zr_i s14 77 (1 : Int32)).bind fun x15 =>
  zb ((zo_shl (1 : Int32) x15) - (1 : Int32)) fun x16 =>
  f_X8_laysGame_15 zFU x16 s14
set_option maxRecDepth 20000 in
theorem c_X8_laysGame (Y : zG)  (s : zS) : zM Y yX8_laysGame cX8_laysGame 6 none (zR 70 1734) [.ref (zy_a Y 76)] s zrV (f_X8_laysGame  s) := by
  refine zm_start (by decide +kernel) (Nat.le_of_ble_eq_true rfl) ?_
  intro X hY hT hX
  subst hY
  have hX : zx_ok X cX8_laysGame RX8 6 := hX
  show zV X (zq X zrV) 6 0 [(0, .ref (zx_ad X 76))] [] s _
  unfold f_X8_laysGame
  refine zv_aload_n hX dX8_laysGame_0 0 rfl ?_
  refine zv_cVV [] (rest := []) hX hT.2.2.2.2 (c_X8_laysFits (zx_Y X) s) wv_X8_laysFits c9_8 zd_76 wm_X8_417 rfl (Nat.le_of_ble_eq_true rfl) (Nat.le_of_ble_eq_true rfl) rfl (Nat.le_of_ble_eq_true rfl) dX8_laysGame_1 (fun _ s14 => ?_)
  refine zv_iconst (v := (1 : Int32)) hX dX8_laysGame_4 zi_i_1 ?_
  refine zv_aload_n hX dX8_laysGame_5 0 rfl ?_
  refine zv_geta hX wf_X8_13 wc_8 zd_76 zj_76_1 c9_8 zr_76_1 (by decide) dX8_laysGame_6 ?_
  refine zv_iconst (v := (1 : Int32)) hX dX8_laysGame_9 zi_i_1 ?_
  refine zv_iald hX dX8_laysGame_10 (fun x15 => ?_)
  refine zv_ishl hX dX8_laysGame_11 ?_
  refine zv_iconst (v := (1 : Int32)) hX dX8_laysGame_12 zi_i_1 ?_
  refine zv_isub hX dX8_laysGame_13 ?_
  refine zv_istB_n (lw := fun x16 => [(1, .int x16), (0, .ref (zx_ad X 76))]) hX dX8_laysGame_14 (by decide) (fun _ => rfl) (fun x16 => ?_)
  exact zv_sub [1, 0] rfl (b_X8_laysGame_15 hX hT zFU x16 s14)
theorem dX8_best_0 : decode cX8_best 0 = .ok (.aload_n 0, 1) := by decide +kernel
theorem dX8_best_1 : decode cX8_best 1 = .ok (.iconst 0, 1) := by decide +kernel
theorem dX8_best_2 : decode cX8_best 2 = .ok (.putfield 1, 3) := by decide +kernel
theorem dX8_best_5 : decode cX8_best 5 = .ok (.aload_n 0, 1) := by decide +kernel
theorem dX8_best_6 : decode cX8_best 6 = .ok (.iload_n 1, 1) := by decide +kernel
theorem dX8_best_7 : decode cX8_best 7 = .ok (.invokevirtual 409, 3) := by decide +kernel
theorem dX8_best_10 : decode cX8_best 10 = .ok (.ifCond .ne 6, 3) := by decide +kernel
theorem dX8_best_13 : decode cX8_best 13 = .ok (.bipush (-3), 2) := by decide +kernel
theorem dX8_best_15 : decode cX8_best 15 = .ok (.ireturn, 1) := by decide +kernel
theorem dX8_best_16 : decode cX8_best 16 = .ok (.aload_n 0, 1) := by decide +kernel
theorem dX8_best_17 : decode cX8_best 17 = .ok (.invokevirtual 455, 3) := by decide +kernel
theorem dX8_best_20 : decode cX8_best 20 = .ok (.iconst 0, 1) := by decide +kernel
theorem dX8_best_21 : decode cX8_best 21 = .ok (.istore_n 2, 1) := by decide +kernel
theorem dX8_best_22 : decode cX8_best 22 = .ok (.iload_n 2, 1) := by decide +kernel
theorem dX8_best_23 : decode cX8_best 23 = .ok (.aload_n 0, 1) := by decide +kernel
theorem dX8_best_24 : decode cX8_best 24 = .ok (.getfield 13, 3) := by decide +kernel
theorem dX8_best_27 : decode cX8_best 27 = .ok (.iconst 1, 1) := by decide +kernel
theorem dX8_best_28 : decode cX8_best 28 = .ok (.iaload, 1) := by decide +kernel
theorem dX8_best_29 : decode cX8_best 29 = .ok (.if_icmp .ge 46, 3) := by decide +kernel
theorem dX8_best_32 : decode cX8_best 32 = .ok (.iload_n 1, 1) := by decide +kernel
theorem dX8_best_33 : decode cX8_best 33 = .ok (.i2l, 1) := by decide +kernel
theorem dX8_best_34 : decode cX8_best 34 = .ok (.iload_n 2, 1) := by decide +kernel
theorem dX8_best_35 : decode cX8_best 35 = .ok (.invokestatic 223, 3) := by decide +kernel
theorem dX8_best_38 : decode cX8_best 38 = .ok (.ifCond .ne 31, 3) := by decide +kernel
theorem dX8_best_41 : decode cX8_best 41 = .ok (.aload_n 0, 1) := by decide +kernel
theorem dX8_best_42 : decode cX8_best 42 = .ok (.getfield 69, 3) := by decide +kernel
theorem dX8_best_45 : decode cX8_best 45 = .ok (.iload_n 1, 1) := by decide +kernel
theorem dX8_best_46 : decode cX8_best 46 = .ok (.iconst 1, 1) := by decide +kernel
theorem dX8_best_47 : decode cX8_best 47 = .ok (.iload_n 2, 1) := by decide +kernel
theorem dX8_best_48 : decode cX8_best 48 = .ok (.ishl, 1) := by decide +kernel
theorem dX8_best_49 : decode cX8_best 49 = .ok (.ior, 1) := by decide +kernel
theorem dX8_best_50 : decode cX8_best 50 = .ok (.baload, 1) := by decide +kernel
theorem dX8_best_51 : decode cX8_best 51 = .ok (.ifCond .eq 18, 3) := by decide +kernel
theorem dX8_best_54 : decode cX8_best 54 = .ok (.aload_n 0, 1) := by decide +kernel
theorem dX8_best_55 : decode cX8_best 55 = .ok (.getfield 72, 3) := by decide +kernel
theorem dX8_best_58 : decode cX8_best 58 = .ok (.iload_n 1, 1) := by decide +kernel
theorem dX8_best_59 : decode cX8_best 59 = .ok (.iconst 1, 1) := by decide +kernel
theorem dX8_best_60 : decode cX8_best 60 = .ok (.iload_n 2, 1) := by decide +kernel
theorem dX8_best_61 : decode cX8_best 61 = .ok (.ishl, 1) := by decide +kernel
theorem dX8_best_62 : decode cX8_best 62 = .ok (.ior, 1) := by decide +kernel
theorem dX8_best_63 : decode cX8_best 63 = .ok (.iaload, 1) := by decide +kernel
theorem dX8_best_64 : decode cX8_best 64 = .ok (.ifCond .ge 5, 3) := by decide +kernel
theorem dX8_best_67 : decode cX8_best 67 = .ok (.iload_n 2, 1) := by decide +kernel
theorem dX8_best_68 : decode cX8_best 68 = .ok (.ireturn, 1) := by decide +kernel
theorem dX8_best_69 : decode cX8_best 69 = .ok (.iinc 2 1, 3) := by decide +kernel
theorem dX8_best_72 : decode cX8_best 72 = .ok (.goto (-50), 3) := by decide +kernel
theorem dX8_best_75 : decode cX8_best 75 = .ok (.iconst (-1), 1) := by decide +kernel
theorem dX8_best_76 : decode cX8_best 76 = .ok (.ireturn, 1) := by decide +kernel
def f_X8_best_69 (kb_22 : Int32 → Int32 → zS → Option (Int32 × zS)) (v1 : Int32) (v2 : Int32) (s : zS) : Option (Int32 × zS) :=
  zb (v2 + (1 : Int32)) fun x1 =>
  kb_22 v1 x1 s
set_option maxRecDepth 20000 in
theorem b_X8_best_69 {X : zX} {kb_22 : Int32 → Int32 → zS → Option (Int32 × zS)} (hX : zx_ok X cX8_best RX8 3) (hT : zx_rt X (some .int) (zR 71 1759)) (hk_22 : ∀ (v1 : Int32) (v2 : Int32) (s : zS), zV X (zq X zrI) 3 22 [(0, .ref (zx_ad X 76)), (1, .int v1), (2, .int v2)] [] s (kb_22 v1 v2 s)) : ∀ (v1 : Int32) (v2 : Int32) (s : zS), zV X (zq X zrI) 3 69 [(0, .ref (zx_ad X 76)), (1, .int v1), (2, .int v2)] [] s (f_X8_best_69 kb_22 v1 v2 s) := by
  intro v1 v2 s
  unfold f_X8_best_69
  refine zv_iincB (lw := fun x1 => [(2, .int x1), (0, .ref (zx_ad X 76)), (1, .int v1)]) hX dX8_best_69 2 rfl zi_i_1 (by decide) (fun _ => rfl) (fun x1 => ?_)
  refine zv_goto (tgt := 22) hX dX8_best_72 rfl ?_
  exact zv_sub [1, 2, 0] rfl (hk_22 v1 x1 s)
def f_X8_best_22 : Nat → Int32 → Int32 → zS → Option (Int32 × zS)
  | 0, _, _, _ => none
  | n + 1, v1, v2, s =>
    (zr_i s 77 (1 : Int32)).bind fun x2 =>
    if x2 ≤ v2 then
    (some ((-1 : Int32), s))
    else
    zbd (f_X8_isIn (v1.toInt64) v2 s) fun r3 s4 =>
    if ¬ r3 = 0 then
    (f_X8_best_69 (f_X8_best_22 n) v1 v2 s4)
    else
    (zr_b s4 94 (v1 ||| (zo_shl (1 : Int32) v2))).bind fun x5 =>
    if x5 = 0 then
    (f_X8_best_69 (f_X8_best_22 n) v1 v2 s4)
    else
    (zr_i s4 95 (v1 ||| (zo_shl (1 : Int32) v2))).bind fun x6 =>
    if 0 ≤ x6 then
    (f_X8_best_69 (f_X8_best_22 n) v1 v2 s4)
    else
    some (v2, s4)
set_option maxRecDepth 20000 in
theorem b_X8_best_22 {X : zX} (hX : zx_ok X cX8_best RX8 3) (hT : zx_rt X (some .int) (zR 71 1759)) : ∀ (n : Nat) (v1 : Int32) (v2 : Int32) (s : zS), zV X (zq X zrI) 3 22 [(0, .ref (zx_ad X 76)), (1, .int v1), (2, .int v2)] [] s (f_X8_best_22 n v1 v2 s) := by
  intro n
  induction n with
  | zero => intro v1 v2 s; exact zv_none
  | succ n ih =>
    intro v1 v2 s
    rw [f_X8_best_22]
    refine zv_iload_n hX dX8_best_22 2 rfl ?_
    refine zv_aload_n hX dX8_best_23 0 rfl ?_
    refine zv_geta hX wf_X8_13 wc_8 zd_76 zj_76_1 c9_8 zr_76_1 (by decide) dX8_best_24 ?_
    refine zv_iconst (v := (1 : Int32)) hX dX8_best_27 zi_i_1 ?_
    refine zv_iald hX dX8_best_28 (fun x2 => ?_)
    refine zv_icmp_ge (tgt := 75) hX dX8_best_29 rfl ?_ ?_
    · refine zv_iconst (v := (-1 : Int32)) hX dX8_best_75 zi_i_m1 ?_
      exact zv_ireti hX hT dX8_best_76
    · refine zv_iload_n hX dX8_best_32 1 rfl ?_
      refine zv_i2l hX dX8_best_33 ?_
      refine zv_iload_n hX dX8_best_34 2 rfl ?_
      refine zv_cSI [.long (v1.toInt64), .int v2] (rest := []) hX hT.2.2.2.2 (c_X8_isIn (zx_Y X) (v1.toInt64) v2 s) wv_X8_isIn wm_X8_223 rfl (Nat.le_of_ble_eq_true rfl) (Nat.le_of_ble_eq_true rfl) rfl (Nat.le_of_ble_eq_true rfl) dX8_best_35 (fun r3 s4 => ?_)
      refine zv_if_ne (tgt := 69) hX dX8_best_38 rfl ?_ ?_
      · exact b_X8_best_69 hX hT ih v1 v2 s4
      · refine zv_aload_n hX dX8_best_41 0 rfl ?_
        refine zv_geta hX wf_X8_69 wc_8 zd_76 zj_76_35 c9_8 zr_76_35 (by decide) dX8_best_42 ?_
        refine zv_iload_n hX dX8_best_45 1 rfl ?_
        refine zv_iconst (v := (1 : Int32)) hX dX8_best_46 zi_i_1 ?_
        refine zv_iload_n hX dX8_best_47 2 rfl ?_
        refine zv_ishl hX dX8_best_48 ?_
        refine zv_ior hX dX8_best_49 ?_
        refine zv_bald hX dX8_best_50 (fun x5 => ?_)
        refine zv_if_eq (tgt := 69) hX dX8_best_51 rfl ?_ ?_
        · exact b_X8_best_69 hX hT ih v1 v2 s4
        · refine zv_aload_n hX dX8_best_54 0 rfl ?_
          refine zv_geta hX wf_X8_72 wc_8 zd_76 zj_76_36 c9_8 zr_76_36 (by decide) dX8_best_55 ?_
          refine zv_iload_n hX dX8_best_58 1 rfl ?_
          refine zv_iconst (v := (1 : Int32)) hX dX8_best_59 zi_i_1 ?_
          refine zv_iload_n hX dX8_best_60 2 rfl ?_
          refine zv_ishl hX dX8_best_61 ?_
          refine zv_ior hX dX8_best_62 ?_
          refine zv_iald hX dX8_best_63 (fun x6 => ?_)
          refine zv_if_ge (tgt := 69) hX dX8_best_64 rfl ?_ ?_
          · exact b_X8_best_69 hX hT ih v1 v2 s4
          · refine zv_iload_n hX dX8_best_67 2 rfl ?_
            exact zv_ireti hX hT dX8_best_68
def f_X8_best (v1 : Int32) (s : zS) : Option (Int32 × zS) :=
  zb (zs_i s 76 0 (0 : Int32)) fun s7 =>
  zbd (f_X8_isSet v1 s7) fun r8 s9 =>
  if ¬ r8 = 0 then
  (zbd (f_X8_laysGame s9) fun _ s10 =>
  f_X8_best_22 zFU v1 (0 : Int32) s10)
  else
  some ((-3 : Int32), s9)
set_option maxRecDepth 20000 in
theorem c_X8_best (Y : zG) (v1 : Int32) (s : zS) : zM Y yX8_best cX8_best 3 (some .int) (zR 71 1759) [.ref (zy_a Y 76), .int v1] s zrI (f_X8_best v1 s) := by
  refine zm_start (by decide +kernel) (Nat.le_of_ble_eq_true rfl) ?_
  intro X hY hT hX
  subst hY
  have hX : zx_ok X cX8_best RX8 3 := hX
  show zV X (zq X zrI) 3 0 [(0, .ref (zx_ad X 76)), (1, .int v1)] [] s _
  unfold f_X8_best
  refine zv_aload_n hX dX8_best_0 0 rfl ?_
  refine zv_iconst (v := (0 : Int32)) hX dX8_best_1 zi_i_0 ?_
  refine zv_puti hX wf_X8_1 wc_8 wk_8_0 zd_76 zj_76_0 c9_8 zr_76_0 dX8_best_2 (fun s7 => ?_)
  refine zv_aload_n hX dX8_best_5 0 rfl ?_
  refine zv_iload_n hX dX8_best_6 1 rfl ?_
  refine zv_cVI [.int v1] (rest := []) hX hT.2.2.2.2 (c_X8_isSet (zx_Y X) v1 s7) wv_X8_isSet c9_8 zd_76 wm_X8_409 rfl (Nat.le_of_ble_eq_true rfl) (Nat.le_of_ble_eq_true rfl) rfl (Nat.le_of_ble_eq_true rfl) dX8_best_7 (fun r8 s9 => ?_)
  refine zv_if_ne (tgt := 16) hX dX8_best_10 rfl ?_ ?_
  · refine zv_aload_n hX dX8_best_16 0 rfl ?_
    refine zv_cVV [] (rest := []) hX hT.2.2.2.2 (c_X8_laysGame (zx_Y X) s9) wv_X8_laysGame c9_8 zd_76 wm_X8_455 rfl (Nat.le_of_ble_eq_true rfl) (Nat.le_of_ble_eq_true rfl) rfl (Nat.le_of_ble_eq_true rfl) dX8_best_17 (fun _ s10 => ?_)
    refine zv_iconst (v := (0 : Int32)) hX dX8_best_20 zi_i_0 ?_
    refine zv_istore_n (lv' := [(2, .int (0 : Int32)), (0, .ref (zx_ad X 76)), (1, .int v1)]) hX dX8_best_21 (by decide) rfl ?_
    exact zv_sub [1, 2, 0] rfl (b_X8_best_22 hX hT zFU v1 (0 : Int32) s10)
  · refine zv_bipush (v := (-3 : Int32)) hX dX8_best_13 zi_b_m3 ?_
    exact zv_ireti hX hT dX8_best_15
