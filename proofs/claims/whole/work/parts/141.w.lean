theorem dX8_largest_0 : decode cX8_largest 0 = .ok (.aload_n 0, 1) := by decide +kernel
theorem dX8_largest_1 : decode cX8_largest 1 = .ok (.iconst 0, 1) := by decide +kernel
theorem dX8_largest_2 : decode cX8_largest 2 = .ok (.putfield 1, 3) := by decide +kernel
theorem dX8_largest_5 : decode cX8_largest 5 = .ok (.aload_n 0, 1) := by decide +kernel
theorem dX8_largest_6 : decode cX8_largest 6 = .ok (.invokevirtual 417, 3) := by decide +kernel
theorem dX8_largest_9 : decode cX8_largest 9 = .ok (.iconst 0, 1) := by decide +kernel
theorem dX8_largest_10 : decode cX8_largest 10 = .ok (.istore_n 1, 1) := by decide +kernel
theorem dX8_largest_11 : decode cX8_largest 11 = .ok (.iconst 1, 1) := by decide +kernel
theorem dX8_largest_12 : decode cX8_largest 12 = .ok (.istore_n 2, 1) := by decide +kernel
theorem dX8_largest_13 : decode cX8_largest 13 = .ok (.iload_n 2, 1) := by decide +kernel
theorem dX8_largest_14 : decode cX8_largest 14 = .ok (.iconst 1, 1) := by decide +kernel
theorem dX8_largest_15 : decode cX8_largest 15 = .ok (.aload_n 0, 1) := by decide +kernel
theorem dX8_largest_16 : decode cX8_largest 16 = .ok (.getfield 13, 3) := by decide +kernel
theorem dX8_largest_19 : decode cX8_largest 19 = .ok (.iconst 1, 1) := by decide +kernel
theorem dX8_largest_20 : decode cX8_largest 20 = .ok (.iaload, 1) := by decide +kernel
theorem dX8_largest_21 : decode cX8_largest 21 = .ok (.ishl, 1) := by decide +kernel
theorem dX8_largest_22 : decode cX8_largest 22 = .ok (.if_icmp .ge 31, 3) := by decide +kernel
theorem dX8_largest_25 : decode cX8_largest 25 = .ok (.aload_n 0, 1) := by decide +kernel
theorem dX8_largest_26 : decode cX8_largest 26 = .ok (.getfield 69, 3) := by decide +kernel
theorem dX8_largest_29 : decode cX8_largest 29 = .ok (.iload_n 2, 1) := by decide +kernel
theorem dX8_largest_30 : decode cX8_largest 30 = .ok (.baload, 1) := by decide +kernel
theorem dX8_largest_31 : decode cX8_largest 31 = .ok (.ifCond .eq 16, 3) := by decide +kernel
theorem dX8_largest_34 : decode cX8_largest 34 = .ok (.iload_n 2, 1) := by decide +kernel
theorem dX8_largest_35 : decode cX8_largest 35 = .ok (.invokestatic 233, 3) := by decide +kernel
theorem dX8_largest_38 : decode cX8_largest 38 = .ok (.iload_n 1, 1) := by decide +kernel
theorem dX8_largest_39 : decode cX8_largest 39 = .ok (.invokestatic 233, 3) := by decide +kernel
theorem dX8_largest_42 : decode cX8_largest 42 = .ok (.if_icmp .le 5, 3) := by decide +kernel
theorem dX8_largest_45 : decode cX8_largest 45 = .ok (.iload_n 2, 1) := by decide +kernel
theorem dX8_largest_46 : decode cX8_largest 46 = .ok (.istore_n 1, 1) := by decide +kernel
theorem dX8_largest_47 : decode cX8_largest 47 = .ok (.iinc 2 1, 3) := by decide +kernel
theorem dX8_largest_50 : decode cX8_largest 50 = .ok (.goto (-37), 3) := by decide +kernel
theorem dX8_largest_53 : decode cX8_largest 53 = .ok (.iload_n 1, 1) := by decide +kernel
theorem dX8_largest_54 : decode cX8_largest 54 = .ok (.ireturn, 1) := by decide +kernel
def f_X8_largest_47 (kb_13 : Int32 → Int32 → zS → Option (Int32 × zS)) (v1 : Int32) (v2 : Int32) (s : zS) : Option (Int32 × zS) :=
  zb (v2 + (1 : Int32)) fun x1 =>
  kb_13 v1 x1 s
set_option maxRecDepth 20000 in
theorem b_X8_largest_47 {X : zX} {kb_13 : Int32 → Int32 → zS → Option (Int32 × zS)} (hX : zx_ok X cX8_largest RX8 3) (hT : zx_rt X (some .int) (zR 70 1734)) (hk_13 : ∀ (v1 : Int32) (v2 : Int32) (s : zS), zV X (zq X zrI) 3 13 [(0, .ref (zx_ad X 76)), (1, .int v1), (2, .int v2)] [] s (kb_13 v1 v2 s)) : ∀ (v1 : Int32) (v2 : Int32) (s : zS), zV X (zq X zrI) 3 47 [(0, .ref (zx_ad X 76)), (1, .int v1), (2, .int v2)] [] s (f_X8_largest_47 kb_13 v1 v2 s) := by
  intro v1 v2 s
  unfold f_X8_largest_47
  refine zv_iincB (lw := fun x1 => [(2, .int x1), (0, .ref (zx_ad X 76)), (1, .int v1)]) hX dX8_largest_47 2 rfl zi_i_1 (by decide) (fun _ => rfl) (fun x1 => ?_)
  refine zv_goto (tgt := 13) hX dX8_largest_50 rfl ?_
  exact zv_sub [1, 2, 0] rfl (hk_13 v1 x1 s)
def f_X8_largest_13 : Nat → Int32 → Int32 → zS → Option (Int32 × zS)
  | 0, _, _, _ => none
  | n + 1, v1, v2, s =>
    (zr_i s 77 (1 : Int32)).bind fun x2 =>
    if (zo_shl (1 : Int32) x2) ≤ v2 then
    (some (v1, s))
    else
    (zr_b s 94 v2).bind fun x3 =>
    if x3 = 0 then
    (f_X8_largest_47 (f_X8_largest_13 n) v1 v2 s)
    else
    zbd (f_X8_bitsOf v2 s) fun r4 s5 =>
    zbd (f_X8_bitsOf v1 s5) fun r6 s7 =>
    if r4 ≤ r6 then
    (f_X8_largest_47 (f_X8_largest_13 n) v1 v2 s7)
    else
    f_X8_largest_47 (f_X8_largest_13 n) v2 v2 s7
set_option maxRecDepth 20000 in
theorem b_X8_largest_13 {X : zX} (hX : zx_ok X cX8_largest RX8 3) (hT : zx_rt X (some .int) (zR 70 1734)) : ∀ (n : Nat) (v1 : Int32) (v2 : Int32) (s : zS), zV X (zq X zrI) 3 13 [(0, .ref (zx_ad X 76)), (1, .int v1), (2, .int v2)] [] s (f_X8_largest_13 n v1 v2 s) := by
  intro n
  induction n with
  | zero => intro v1 v2 s; exact zv_none
  | succ n ih =>
    intro v1 v2 s
    rw [f_X8_largest_13]
    refine zv_iload_n hX dX8_largest_13 2 rfl ?_
    refine zv_iconst (v := (1 : Int32)) hX dX8_largest_14 zi_i_1 ?_
    refine zv_aload_n hX dX8_largest_15 0 rfl ?_
    refine zv_geta hX wf_X8_13 wc_8 zd_76 zj_76_1 c9_8 zr_76_1 (by decide) dX8_largest_16 ?_
    refine zv_iconst (v := (1 : Int32)) hX dX8_largest_19 zi_i_1 ?_
    refine zv_iald hX dX8_largest_20 (fun x2 => ?_)
    refine zv_ishl hX dX8_largest_21 ?_
    refine zv_icmp_ge (tgt := 53) hX dX8_largest_22 rfl ?_ ?_
    · refine zv_iload_n hX dX8_largest_53 1 rfl ?_
      exact zv_ireti hX hT dX8_largest_54
    · refine zv_aload_n hX dX8_largest_25 0 rfl ?_
      refine zv_geta hX wf_X8_69 wc_8 zd_76 zj_76_35 c9_8 zr_76_35 (by decide) dX8_largest_26 ?_
      refine zv_iload_n hX dX8_largest_29 2 rfl ?_
      refine zv_bald hX dX8_largest_30 (fun x3 => ?_)
      refine zv_if_eq (tgt := 47) hX dX8_largest_31 rfl ?_ ?_
      · exact b_X8_largest_47 hX hT ih v1 v2 s
      · refine zv_iload_n hX dX8_largest_34 2 rfl ?_
        refine zv_cSI [.int v2] (rest := []) hX hT.2.2.2.2 (c_X8_bitsOf (zx_Y X) v2 s) wv_X8_bitsOf wm_X8_233 rfl (Nat.le_of_ble_eq_true rfl) (Nat.le_of_ble_eq_true rfl) rfl (Nat.le_of_ble_eq_true rfl) dX8_largest_35 (fun r4 s5 => ?_)
        refine zv_iload_n hX dX8_largest_38 1 rfl ?_
        refine zv_cSI [.int v1] (rest := [.int r4]) hX hT.2.2.2.2 (c_X8_bitsOf (zx_Y X) v1 s5) wv_X8_bitsOf wm_X8_233 rfl (Nat.le_of_ble_eq_true rfl) (Nat.le_of_ble_eq_true rfl) rfl (Nat.le_of_ble_eq_true rfl) dX8_largest_39 (fun r6 s7 => ?_)
        refine zv_icmp_le (tgt := 47) hX dX8_largest_42 rfl ?_ ?_
        · exact b_X8_largest_47 hX hT ih v1 v2 s7
        · refine zv_iload_n hX dX8_largest_45 2 rfl ?_
          refine zv_istore_n (lv' := [(1, .int v2), (0, .ref (zx_ad X 76)), (2, .int v2)]) hX dX8_largest_46 (by decide) rfl ?_
          exact zv_sub [1, 0, 2] rfl (b_X8_largest_47 hX hT ih v2 v2 s7)
def f_X8_largest  (s : zS) : Option (Int32 × zS) :=
  zb (zs_i s 76 0 (0 : Int32)) fun s8 =>
  zbd (f_X8_laysFits s8) fun _ s9 =>
  f_X8_largest_13 zFU (0 : Int32) (1 : Int32) s9
set_option maxRecDepth 20000 in
theorem c_X8_largest (Y : zG)  (s : zS) : zM Y yX8_largest cX8_largest 3 (some .int) (zR 70 1734) [.ref (zy_a Y 76)] s zrI (f_X8_largest  s) := by
  refine zm_start (by decide +kernel) (Nat.le_of_ble_eq_true rfl) ?_
  intro X hY hT hX
  subst hY
  have hX : zx_ok X cX8_largest RX8 3 := hX
  show zV X (zq X zrI) 3 0 [(0, .ref (zx_ad X 76))] [] s _
  unfold f_X8_largest
  refine zv_aload_n hX dX8_largest_0 0 rfl ?_
  refine zv_iconst (v := (0 : Int32)) hX dX8_largest_1 zi_i_0 ?_
  refine zv_puti hX wf_X8_1 wc_8 wk_8_0 zd_76 zj_76_0 c9_8 zr_76_0 dX8_largest_2 (fun s8 => ?_)
  refine zv_aload_n hX dX8_largest_5 0 rfl ?_
  refine zv_cVV [] (rest := []) hX hT.2.2.2.2 (c_X8_laysFits (zx_Y X) s8) wv_X8_laysFits c9_8 zd_76 wm_X8_417 rfl (Nat.le_of_ble_eq_true rfl) (Nat.le_of_ble_eq_true rfl) rfl (Nat.le_of_ble_eq_true rfl) dX8_largest_6 (fun _ s9 => ?_)
  refine zv_iconst (v := (0 : Int32)) hX dX8_largest_9 zi_i_0 ?_
  refine zv_istore_n (lv' := [(1, .int (0 : Int32)), (0, .ref (zx_ad X 76))]) hX dX8_largest_10 (by decide) rfl ?_
  refine zv_iconst (v := (1 : Int32)) hX dX8_largest_11 zi_i_1 ?_
  refine zv_istore_n (lv' := [(2, .int (1 : Int32)), (1, .int (0 : Int32)), (0, .ref (zx_ad X 76))]) hX dX8_largest_12 (by decide) rfl ?_
  exact zv_sub [2, 1, 0] rfl (b_X8_largest_13 hX hT zFU (0 : Int32) (1 : Int32) s9)
theorem dX8_lasts_0 : decode cX8_lasts 0 = .ok (.aload_n 0, 1) := by decide +kernel
theorem dX8_lasts_1 : decode cX8_lasts 1 = .ok (.iconst 0, 1) := by decide +kernel
theorem dX8_lasts_2 : decode cX8_lasts 2 = .ok (.putfield 1, 3) := by decide +kernel
theorem dX8_lasts_5 : decode cX8_lasts 5 = .ok (.aload_n 0, 1) := by decide +kernel
theorem dX8_lasts_6 : decode cX8_lasts 6 = .ok (.iload_n 1, 1) := by decide +kernel
theorem dX8_lasts_7 : decode cX8_lasts 7 = .ok (.invokevirtual 409, 3) := by decide +kernel
theorem dX8_lasts_10 : decode cX8_lasts 10 = .ok (.ifCond .ne 6, 3) := by decide +kernel
theorem dX8_lasts_13 : decode cX8_lasts 13 = .ok (.bipush (-3), 2) := by decide +kernel
theorem dX8_lasts_15 : decode cX8_lasts 15 = .ok (.ireturn, 1) := by decide +kernel
theorem dX8_lasts_16 : decode cX8_lasts 16 = .ok (.aload_n 0, 1) := by decide +kernel
theorem dX8_lasts_17 : decode cX8_lasts 17 = .ok (.invokevirtual 455, 3) := by decide +kernel
theorem dX8_lasts_20 : decode cX8_lasts 20 = .ok (.aload_n 0, 1) := by decide +kernel
theorem dX8_lasts_21 : decode cX8_lasts 21 = .ok (.getfield 72, 3) := by decide +kernel
theorem dX8_lasts_24 : decode cX8_lasts 24 = .ok (.iload_n 1, 1) := by decide +kernel
theorem dX8_lasts_25 : decode cX8_lasts 25 = .ok (.iaload, 1) := by decide +kernel
theorem dX8_lasts_26 : decode cX8_lasts 26 = .ok (.ifCond .lt 12, 3) := by decide +kernel
theorem dX8_lasts_29 : decode cX8_lasts 29 = .ok (.aload_n 0, 1) := by decide +kernel
theorem dX8_lasts_30 : decode cX8_lasts 30 = .ok (.getfield 72, 3) := by decide +kernel
theorem dX8_lasts_33 : decode cX8_lasts 33 = .ok (.iload_n 1, 1) := by decide +kernel
theorem dX8_lasts_34 : decode cX8_lasts 34 = .ok (.iaload, 1) := by decide +kernel
theorem dX8_lasts_35 : decode cX8_lasts 35 = .ok (.goto 12, 3) := by decide +kernel
theorem dX8_lasts_38 : decode cX8_lasts 38 = .ok (.aload_n 0, 1) := by decide +kernel
theorem dX8_lasts_39 : decode cX8_lasts 39 = .ok (.getfield 72, 3) := by decide +kernel
theorem dX8_lasts_42 : decode cX8_lasts 42 = .ok (.iload_n 1, 1) := by decide +kernel
theorem dX8_lasts_43 : decode cX8_lasts 43 = .ok (.iaload, 1) := by decide +kernel
theorem dX8_lasts_44 : decode cX8_lasts 44 = .ok (.ineg, 1) := by decide +kernel
theorem dX8_lasts_45 : decode cX8_lasts 45 = .ok (.iconst 1, 1) := by decide +kernel
theorem dX8_lasts_46 : decode cX8_lasts 46 = .ok (.isub, 1) := by decide +kernel
theorem dX8_lasts_47 : decode cX8_lasts 47 = .ok (.ireturn, 1) := by decide +kernel
def f_X8_lasts_47 (w0 : Int32) (s : zS) : Option (Int32 × zS) :=
  some (w0, s)
set_option maxRecDepth 20000 in
theorem b_X8_lasts_47 {X : zX} (hX : zx_ok X cX8_lasts RX8 2) (hT : zx_rt X (some .int) (zR 71 1759)) : ∀ (w0 : Int32) (s : zS), zV X (zq X zrI) 2 47 [] [.int w0] s (f_X8_lasts_47 w0 s) := by
  intro w0 s
  unfold f_X8_lasts_47
  exact zv_ireti hX hT dX8_lasts_47
def f_X8_lasts (v1 : Int32) (s : zS) : Option (Int32 × zS) :=
  zb (zs_i s 76 0 (0 : Int32)) fun s1 =>
  zbd (f_X8_isSet v1 s1) fun r2 s3 =>
  if ¬ r2 = 0 then
  (zbd (f_X8_laysGame s3) fun _ s4 =>
  (zr_i s4 95 v1).bind fun x5 =>
  if x5 < 0 then
  ((zr_i s4 95 v1).bind fun x6 =>
  f_X8_lasts_47 ((-x6) - (1 : Int32)) s4)
  else
  (zr_i s4 95 v1).bind fun x7 =>
  f_X8_lasts_47 x7 s4)
  else
  some ((-3 : Int32), s3)
set_option maxRecDepth 20000 in
theorem c_X8_lasts (Y : zG) (v1 : Int32) (s : zS) : zM Y yX8_lasts cX8_lasts 2 (some .int) (zR 71 1759) [.ref (zy_a Y 76), .int v1] s zrI (f_X8_lasts v1 s) := by
  refine zm_start (by decide +kernel) (Nat.le_of_ble_eq_true rfl) ?_
  intro X hY hT hX
  subst hY
  have hX : zx_ok X cX8_lasts RX8 2 := hX
  show zV X (zq X zrI) 2 0 [(0, .ref (zx_ad X 76)), (1, .int v1)] [] s _
  unfold f_X8_lasts
  refine zv_aload_n hX dX8_lasts_0 0 rfl ?_
  refine zv_iconst (v := (0 : Int32)) hX dX8_lasts_1 zi_i_0 ?_
  refine zv_puti hX wf_X8_1 wc_8 wk_8_0 zd_76 zj_76_0 c9_8 zr_76_0 dX8_lasts_2 (fun s1 => ?_)
  refine zv_aload_n hX dX8_lasts_5 0 rfl ?_
  refine zv_iload_n hX dX8_lasts_6 1 rfl ?_
  refine zv_cVI [.int v1] (rest := []) hX hT.2.2.2.2 (c_X8_isSet (zx_Y X) v1 s1) wv_X8_isSet c9_8 zd_76 wm_X8_409 rfl (Nat.le_of_ble_eq_true rfl) (Nat.le_of_ble_eq_true rfl) rfl (Nat.le_of_ble_eq_true rfl) dX8_lasts_7 (fun r2 s3 => ?_)
  refine zv_if_ne (tgt := 16) hX dX8_lasts_10 rfl ?_ ?_
  · refine zv_aload_n hX dX8_lasts_16 0 rfl ?_
    refine zv_cVV [] (rest := []) hX hT.2.2.2.2 (c_X8_laysGame (zx_Y X) s3) wv_X8_laysGame c9_8 zd_76 wm_X8_455 rfl (Nat.le_of_ble_eq_true rfl) (Nat.le_of_ble_eq_true rfl) rfl (Nat.le_of_ble_eq_true rfl) dX8_lasts_17 (fun _ s4 => ?_)
    refine zv_aload_n hX dX8_lasts_20 0 rfl ?_
    refine zv_geta hX wf_X8_72 wc_8 zd_76 zj_76_36 c9_8 zr_76_36 (by decide) dX8_lasts_21 ?_
    refine zv_iload_n hX dX8_lasts_24 1 rfl ?_
    refine zv_iald hX dX8_lasts_25 (fun x5 => ?_)
    refine zv_if_lt (tgt := 38) hX dX8_lasts_26 rfl ?_ ?_
    · refine zv_aload_n hX dX8_lasts_38 0 rfl ?_
      refine zv_geta hX wf_X8_72 wc_8 zd_76 zj_76_36 c9_8 zr_76_36 (by decide) dX8_lasts_39 ?_
      refine zv_iload_n hX dX8_lasts_42 1 rfl ?_
      refine zv_iald hX dX8_lasts_43 (fun x6 => ?_)
      refine zv_ineg hX dX8_lasts_44 ?_
      refine zv_iconst (v := (1 : Int32)) hX dX8_lasts_45 zi_i_1 ?_
      refine zv_isub hX dX8_lasts_46 ?_
      exact zv_sub [] rfl (b_X8_lasts_47 hX hT ((-x6) - (1 : Int32)) s4)
    · refine zv_aload_n hX dX8_lasts_29 0 rfl ?_
      refine zv_geta hX wf_X8_72 wc_8 zd_76 zj_76_36 c9_8 zr_76_36 (by decide) dX8_lasts_30 ?_
      refine zv_iload_n hX dX8_lasts_33 1 rfl ?_
      refine zv_iald hX dX8_lasts_34 (fun x7 => ?_)
      refine zv_goto (tgt := 47) hX dX8_lasts_35 rfl ?_
      exact zv_sub [] rfl (b_X8_lasts_47 hX hT x7 s4)
  · refine zv_bipush (v := (-3 : Int32)) hX dX8_lasts_13 zi_b_m3 ?_
    exact zv_ireti hX hT dX8_lasts_15
theorem dX8_likeliest_0 : decode cX8_likeliest 0 = .ok (.aload_n 0, 1) := by decide +kernel
theorem dX8_likeliest_1 : decode cX8_likeliest 1 = .ok (.iconst 0, 1) := by decide +kernel
theorem dX8_likeliest_2 : decode cX8_likeliest 2 = .ok (.putfield 1, 3) := by decide +kernel
theorem dX8_likeliest_5 : decode cX8_likeliest 5 = .ok (.aload_n 0, 1) := by decide +kernel
theorem dX8_likeliest_6 : decode cX8_likeliest 6 = .ok (.iload_n 1, 1) := by decide +kernel
theorem dX8_likeliest_7 : decode cX8_likeliest 7 = .ok (.i2l, 1) := by decide +kernel
theorem dX8_likeliest_8 : decode cX8_likeliest 8 = .ok (.invokevirtual 219, 3) := by decide +kernel
theorem dX8_likeliest_11 : decode cX8_likeliest 11 = .ok (.ifCond .ne 6, 3) := by decide +kernel
theorem dX8_likeliest_14 : decode cX8_likeliest 14 = .ok (.bipush (-2), 2) := by decide +kernel
theorem dX8_likeliest_16 : decode cX8_likeliest 16 = .ok (.ireturn, 1) := by decide +kernel
theorem dX8_likeliest_17 : decode cX8_likeliest 17 = .ok (.aload_n 0, 1) := by decide +kernel
theorem dX8_likeliest_18 : decode cX8_likeliest 18 = .ok (.iload_n 1, 1) := by decide +kernel
theorem dX8_likeliest_19 : decode cX8_likeliest 19 = .ok (.invokevirtual 461, 3) := by decide +kernel
theorem dX8_likeliest_22 : decode cX8_likeliest 22 = .ok (.iconst (-1), 1) := by decide +kernel
theorem dX8_likeliest_23 : decode cX8_likeliest 23 = .ok (.istore_n 2, 1) := by decide +kernel
theorem dX8_likeliest_24 : decode cX8_likeliest 24 = .ok (.iconst 0, 1) := by decide +kernel
theorem dX8_likeliest_25 : decode cX8_likeliest 25 = .ok (.istore_n 3, 1) := by decide +kernel
theorem dX8_likeliest_26 : decode cX8_likeliest 26 = .ok (.iload_n 3, 1) := by decide +kernel
theorem dX8_likeliest_27 : decode cX8_likeliest 27 = .ok (.aload_n 0, 1) := by decide +kernel
theorem dX8_likeliest_28 : decode cX8_likeliest 28 = .ok (.getfield 13, 3) := by decide +kernel
theorem dX8_likeliest_31 : decode cX8_likeliest 31 = .ok (.iconst 1, 1) := by decide +kernel
theorem dX8_likeliest_32 : decode cX8_likeliest 32 = .ok (.iaload, 1) := by decide +kernel
theorem dX8_likeliest_33 : decode cX8_likeliest 33 = .ok (.if_icmp .ge 35, 3) := by decide +kernel
theorem dX8_likeliest_36 : decode cX8_likeliest 36 = .ok (.aload_n 0, 1) := by decide +kernel
theorem dX8_likeliest_37 : decode cX8_likeliest 37 = .ok (.getfield 75, 3) := by decide +kernel
theorem dX8_likeliest_40 : decode cX8_likeliest 40 = .ok (.iload_n 3, 1) := by decide +kernel
theorem dX8_likeliest_41 : decode cX8_likeliest 41 = .ok (.iaload, 1) := by decide +kernel
theorem dX8_likeliest_42 : decode cX8_likeliest 42 = .ok (.iload_n 2, 1) := by decide +kernel
theorem dX8_likeliest_43 : decode cX8_likeliest 43 = .ok (.iconst (-1), 1) := by decide +kernel
theorem dX8_likeliest_44 : decode cX8_likeliest 44 = .ok (.if_icmp .ne 7, 3) := by decide +kernel
theorem dX8_likeliest_47 : decode cX8_likeliest 47 = .ok (.iconst 0, 1) := by decide +kernel
theorem dX8_likeliest_48 : decode cX8_likeliest 48 = .ok (.goto 9, 3) := by decide +kernel
theorem dX8_likeliest_51 : decode cX8_likeliest 51 = .ok (.aload_n 0, 1) := by decide +kernel
theorem dX8_likeliest_52 : decode cX8_likeliest 52 = .ok (.getfield 75, 3) := by decide +kernel
theorem dX8_likeliest_55 : decode cX8_likeliest 55 = .ok (.iload_n 2, 1) := by decide +kernel
theorem dX8_likeliest_56 : decode cX8_likeliest 56 = .ok (.iaload, 1) := by decide +kernel
theorem dX8_likeliest_57 : decode cX8_likeliest 57 = .ok (.if_icmp .le 5, 3) := by decide +kernel
theorem dX8_likeliest_60 : decode cX8_likeliest 60 = .ok (.iload_n 3, 1) := by decide +kernel
theorem dX8_likeliest_61 : decode cX8_likeliest 61 = .ok (.istore_n 2, 1) := by decide +kernel
theorem dX8_likeliest_62 : decode cX8_likeliest 62 = .ok (.iinc 3 1, 3) := by decide +kernel
theorem dX8_likeliest_65 : decode cX8_likeliest 65 = .ok (.goto (-39), 3) := by decide +kernel
theorem dX8_likeliest_68 : decode cX8_likeliest 68 = .ok (.iload_n 2, 1) := by decide +kernel
theorem dX8_likeliest_69 : decode cX8_likeliest 69 = .ok (.ireturn, 1) := by decide +kernel
def f_X8_likeliest_62 (kb_26 : Int32 → Int32 → zS → Option (Int32 × zS)) (v2 : Int32) (v3 : Int32) (s : zS) : Option (Int32 × zS) :=
  zb (v3 + (1 : Int32)) fun x1 =>
  kb_26 v2 x1 s
set_option maxRecDepth 20000 in
theorem b_X8_likeliest_62 {X : zX} {kb_26 : Int32 → Int32 → zS → Option (Int32 × zS)} (hX : zx_ok X cX8_likeliest RX8 4) (hT : zx_rt X (some .int) (zR 72 1778)) (hk_26 : ∀ (v2 : Int32) (v3 : Int32) (s : zS), zV X (zq X zrI) 4 26 [(0, .ref (zx_ad X 76)), (2, .int v2), (3, .int v3)] [] s (kb_26 v2 v3 s)) : ∀ (v2 : Int32) (v3 : Int32) (s : zS), zV X (zq X zrI) 4 62 [(0, .ref (zx_ad X 76)), (2, .int v2), (3, .int v3)] [] s (f_X8_likeliest_62 kb_26 v2 v3 s) := by
  intro v2 v3 s
  unfold f_X8_likeliest_62
  refine zv_iincB (lw := fun x1 => [(3, .int x1), (0, .ref (zx_ad X 76)), (2, .int v2)]) hX dX8_likeliest_62 2 rfl zi_i_1 (by decide) (fun _ => rfl) (fun x1 => ?_)
  refine zv_goto (tgt := 26) hX dX8_likeliest_65 rfl ?_
  exact zv_sub [1, 2, 0] rfl (hk_26 v2 x1 s)
def f_X8_likeliest_57 (kb_26 : Int32 → Int32 → zS → Option (Int32 × zS)) (v2 : Int32) (v3 : Int32) (w0 : Int32) (w1 : Int32) (s : zS) : Option (Int32 × zS) :=
  if w1 ≤ w0 then
  (f_X8_likeliest_62 kb_26 v2 v3 s)
  else
  f_X8_likeliest_62 kb_26 v3 v3 s
set_option maxRecDepth 20000 in
theorem b_X8_likeliest_57 {X : zX} {kb_26 : Int32 → Int32 → zS → Option (Int32 × zS)} (hX : zx_ok X cX8_likeliest RX8 4) (hT : zx_rt X (some .int) (zR 72 1778)) (hk_26 : ∀ (v2 : Int32) (v3 : Int32) (s : zS), zV X (zq X zrI) 4 26 [(0, .ref (zx_ad X 76)), (2, .int v2), (3, .int v3)] [] s (kb_26 v2 v3 s)) : ∀ (v2 : Int32) (v3 : Int32) (w0 : Int32) (w1 : Int32) (s : zS), zV X (zq X zrI) 4 57 [(0, .ref (zx_ad X 76)), (2, .int v2), (3, .int v3)] [.int w0, .int w1] s (f_X8_likeliest_57 kb_26 v2 v3 w0 w1 s) := by
  intro v2 v3 w0 w1 s
  unfold f_X8_likeliest_57
  refine zv_icmp_le (tgt := 62) hX dX8_likeliest_57 rfl ?_ ?_
  · exact b_X8_likeliest_62 hX hT hk_26 v2 v3 s
  · refine zv_iload_n hX dX8_likeliest_60 2 rfl ?_
    refine zv_istore_n (lv' := [(2, .int v3), (0, .ref (zx_ad X 76)), (3, .int v3)]) hX dX8_likeliest_61 (by decide) rfl ?_
    exact zv_sub [1, 0, 2] rfl (b_X8_likeliest_62 hX hT hk_26 v3 v3 s)
def f_X8_likeliest_26 : Nat → Int32 → Int32 → zS → Option (Int32 × zS)
  | 0, _, _, _ => none
  | n + 1, v2, v3, s =>
    (zr_i s 77 (1 : Int32)).bind fun x2 =>
    if x2 ≤ v3 then
    (some (v2, s))
    else
    (zr_i s 96 v3).bind fun x3 =>
    if ¬ v2 = (-1 : Int32) then
    ((zr_i s 96 v2).bind fun x4 =>
    f_X8_likeliest_57 (f_X8_likeliest_26 n) v2 v3 x4 x3 s)
    else
    f_X8_likeliest_57 (f_X8_likeliest_26 n) v2 v3 (0 : Int32) x3 s
set_option maxRecDepth 20000 in
theorem b_X8_likeliest_26 {X : zX} (hX : zx_ok X cX8_likeliest RX8 4) (hT : zx_rt X (some .int) (zR 72 1778)) : ∀ (n : Nat) (v2 : Int32) (v3 : Int32) (s : zS), zV X (zq X zrI) 4 26 [(0, .ref (zx_ad X 76)), (2, .int v2), (3, .int v3)] [] s (f_X8_likeliest_26 n v2 v3 s) := by
  intro n
  induction n with
  | zero => intro v2 v3 s; exact zv_none
  | succ n ih =>
    intro v2 v3 s
    rw [f_X8_likeliest_26]
    refine zv_iload_n hX dX8_likeliest_26 2 rfl ?_
    refine zv_aload_n hX dX8_likeliest_27 0 rfl ?_
    refine zv_geta hX wf_X8_13 wc_8 zd_76 zj_76_1 c9_8 zr_76_1 (by decide) dX8_likeliest_28 ?_
    refine zv_iconst (v := (1 : Int32)) hX dX8_likeliest_31 zi_i_1 ?_
    refine zv_iald hX dX8_likeliest_32 (fun x2 => ?_)
    refine zv_icmp_ge (tgt := 68) hX dX8_likeliest_33 rfl ?_ ?_
    · refine zv_iload_n hX dX8_likeliest_68 1 rfl ?_
      exact zv_ireti hX hT dX8_likeliest_69
    · refine zv_aload_n hX dX8_likeliest_36 0 rfl ?_
      refine zv_geta hX wf_X8_75 wc_8 zd_76 zj_76_37 c9_8 zr_76_37 (by decide) dX8_likeliest_37 ?_
      refine zv_iload_n hX dX8_likeliest_40 2 rfl ?_
      refine zv_iald hX dX8_likeliest_41 (fun x3 => ?_)
      refine zv_iload_n hX dX8_likeliest_42 1 rfl ?_
      refine zv_iconst (v := (-1 : Int32)) hX dX8_likeliest_43 zi_i_m1 ?_
      refine zv_icmp_ne (tgt := 51) hX dX8_likeliest_44 rfl ?_ ?_
      · refine zv_aload_n hX dX8_likeliest_51 0 rfl ?_
        refine zv_geta hX wf_X8_75 wc_8 zd_76 zj_76_37 c9_8 zr_76_37 (by decide) dX8_likeliest_52 ?_
        refine zv_iload_n hX dX8_likeliest_55 1 rfl ?_
        refine zv_iald hX dX8_likeliest_56 (fun x4 => ?_)
        exact b_X8_likeliest_57 hX hT ih v2 v3 x4 x3 s
      · refine zv_iconst (v := (0 : Int32)) hX dX8_likeliest_47 zi_i_0 ?_
        refine zv_goto (tgt := 57) hX dX8_likeliest_48 rfl ?_
        exact b_X8_likeliest_57 hX hT ih v2 v3 (0 : Int32) x3 s
def f_X8_likeliest (v1 : Int32) (s : zS) : Option (Int32 × zS) :=
  zb (zs_i s 76 0 (0 : Int32)) fun s5 =>
  zbd (f_X8_isPerson (v1.toInt64) s5) fun r6 s7 =>
  if ¬ r6 = 0 then
  (zbd (f_X8_laysLikely v1 s7) fun _ s8 =>
  f_X8_likeliest_26 zFU (-1 : Int32) (0 : Int32) s8)
  else
  some ((-2 : Int32), s7)
set_option maxRecDepth 20000 in
theorem c_X8_likeliest (Y : zG) (v1 : Int32) (s : zS) : zM Y yX8_likeliest cX8_likeliest 4 (some .int) (zR 72 1778) [.ref (zy_a Y 76), .int v1] s zrI (f_X8_likeliest v1 s) := by
  refine zm_start (by decide +kernel) (Nat.le_of_ble_eq_true rfl) ?_
  intro X hY hT hX
  subst hY
  have hX : zx_ok X cX8_likeliest RX8 4 := hX
  show zV X (zq X zrI) 4 0 [(0, .ref (zx_ad X 76)), (1, .int v1)] [] s _
  unfold f_X8_likeliest
  refine zv_aload_n hX dX8_likeliest_0 0 rfl ?_
  refine zv_iconst (v := (0 : Int32)) hX dX8_likeliest_1 zi_i_0 ?_
  refine zv_puti hX wf_X8_1 wc_8 wk_8_0 zd_76 zj_76_0 c9_8 zr_76_0 dX8_likeliest_2 (fun s5 => ?_)
  refine zv_aload_n hX dX8_likeliest_5 0 rfl ?_
  refine zv_iload_n hX dX8_likeliest_6 1 rfl ?_
  refine zv_i2l hX dX8_likeliest_7 ?_
  refine zv_cVI [.long (v1.toInt64)] (rest := []) hX hT.2.2.2.2 (c_X8_isPerson (zx_Y X) (v1.toInt64) s5) wv_X8_isPerson c9_8 zd_76 wm_X8_219 rfl (Nat.le_of_ble_eq_true rfl) (Nat.le_of_ble_eq_true rfl) rfl (Nat.le_of_ble_eq_true rfl) dX8_likeliest_8 (fun r6 s7 => ?_)
  refine zv_if_ne (tgt := 17) hX dX8_likeliest_11 rfl ?_ ?_
  · refine zv_aload_n hX dX8_likeliest_17 0 rfl ?_
    refine zv_iload_n hX dX8_likeliest_18 1 rfl ?_
    refine zv_cVV [.int v1] (rest := []) hX hT.2.2.2.2 (c_X8_laysLikely (zx_Y X) v1 s7) wv_X8_laysLikely c9_8 zd_76 wm_X8_461 rfl (Nat.le_of_ble_eq_true rfl) (Nat.le_of_ble_eq_true rfl) rfl (Nat.le_of_ble_eq_true rfl) dX8_likeliest_19 (fun _ s8 => ?_)
    refine zv_iconst (v := (-1 : Int32)) hX dX8_likeliest_22 zi_i_m1 ?_
    refine zv_istore_n (lv' := [(2, .int (-1 : Int32)), (0, .ref (zx_ad X 76)), (1, .int v1)]) hX dX8_likeliest_23 (by decide) rfl ?_
    refine zv_iconst (v := (0 : Int32)) hX dX8_likeliest_24 zi_i_0 ?_
    refine zv_istore_n (lv' := [(3, .int (0 : Int32)), (2, .int (-1 : Int32)), (0, .ref (zx_ad X 76)), (1, .int v1)]) hX dX8_likeliest_25 (by decide) rfl ?_
    exact zv_sub [2, 1, 0] rfl (b_X8_likeliest_26 hX hT zFU (-1 : Int32) (0 : Int32) s8)
  · refine zv_bipush (v := (-2 : Int32)) hX dX8_likeliest_14 zi_b_m2 ?_
    exact zv_ireti hX hT dX8_likeliest_16
theorem dX8_likely_0 : decode cX8_likely 0 = .ok (.aload_n 0, 1) := by decide +kernel
theorem dX8_likely_1 : decode cX8_likely 1 = .ok (.iconst 0, 1) := by decide +kernel
theorem dX8_likely_2 : decode cX8_likely 2 = .ok (.putfield 1, 3) := by decide +kernel
theorem dX8_likely_5 : decode cX8_likely 5 = .ok (.iload_n 1, 1) := by decide +kernel
theorem dX8_likely_6 : decode cX8_likely 6 = .ok (.i2l, 1) := by decide +kernel
theorem dX8_likely_7 : decode cX8_likely 7 = .ok (.lconst 0, 1) := by decide +kernel
theorem dX8_likely_8 : decode cX8_likely 8 = .ok (.ldc2_w 350, 3) := by decide +kernel
theorem dX8_likely_11 : decode cX8_likely 11 = .ok (.invokestatic 154, 3) := by decide +kernel
theorem dX8_likely_14 : decode cX8_likely 14 = .ok (.ifCond .eq 22, 3) := by decide +kernel
theorem dX8_likely_17 : decode cX8_likely 17 = .ok (.aload_n 0, 1) := by decide +kernel
theorem dX8_likely_18 : decode cX8_likely 18 = .ok (.iload_n 2, 1) := by decide +kernel
theorem dX8_likely_19 : decode cX8_likely 19 = .ok (.i2l, 1) := by decide +kernel
theorem dX8_likely_20 : decode cX8_likely 20 = .ok (.invokevirtual 219, 3) := by decide +kernel
theorem dX8_likely_23 : decode cX8_likely 23 = .ok (.ifCond .eq 13, 3) := by decide +kernel
theorem dX8_likely_26 : decode cX8_likely 26 = .ok (.iload_n 3, 1) := by decide +kernel
theorem dX8_likely_27 : decode cX8_likely 27 = .ok (.i2l, 1) := by decide +kernel
theorem dX8_likely_28 : decode cX8_likely 28 = .ok (.lconst 0, 1) := by decide +kernel
theorem dX8_likely_29 : decode cX8_likely 29 = .ok (.lconst 1, 1) := by decide +kernel
theorem dX8_likely_30 : decode cX8_likely 30 = .ok (.invokestatic 154, 3) := by decide +kernel
theorem dX8_likely_33 : decode cX8_likely 33 = .ok (.ifCond .ne 6, 3) := by decide +kernel
theorem dX8_likely_36 : decode cX8_likely 36 = .ok (.bipush (-2), 2) := by decide +kernel
theorem dX8_likely_38 : decode cX8_likely 38 = .ok (.ireturn, 1) := by decide +kernel
theorem dX8_likely_39 : decode cX8_likely 39 = .ok (.aload_n 0, 1) := by decide +kernel
theorem dX8_likely_40 : decode cX8_likely 40 = .ok (.iload_n 1, 1) := by decide +kernel
theorem dX8_likely_41 : decode cX8_likely 41 = .ok (.invokevirtual 429, 3) := by decide +kernel
theorem dX8_likely_44 : decode cX8_likely 44 = .ok (.istore 4, 2) := by decide +kernel
theorem dX8_likely_46 : decode cX8_likely 46 = .ok (.iload 4, 2) := by decide +kernel
theorem dX8_likely_48 : decode cX8_likely 48 = .ok (.ifCond .eq 6, 3) := by decide +kernel
theorem dX8_likely_51 : decode cX8_likely 51 = .ok (.iload 4, 2) := by decide +kernel
theorem dX8_likely_53 : decode cX8_likely 53 = .ok (.ireturn, 1) := by decide +kernel
theorem dX8_likely_54 : decode cX8_likely 54 = .ok (.aload_n 0, 1) := by decide +kernel
theorem dX8_likely_55 : decode cX8_likely 55 = .ok (.iload_n 1, 1) := by decide +kernel
theorem dX8_likely_56 : decode cX8_likely 56 = .ok (.invokevirtual 432, 3) := by decide +kernel
theorem dX8_likely_59 : decode cX8_likely 59 = .ok (.istore 5, 2) := by decide +kernel
theorem dX8_likely_61 : decode cX8_likely 61 = .ok (.aload_n 0, 1) := by decide +kernel
theorem dX8_likely_62 : decode cX8_likely 62 = .ok (.iload 5, 2) := by decide +kernel
theorem dX8_likely_64 : decode cX8_likely 64 = .ok (.invokevirtual 438, 3) := by decide +kernel
theorem dX8_likely_67 : decode cX8_likely 67 = .ok (.ifCond .ne 7, 3) := by decide +kernel
theorem dX8_likely_70 : decode cX8_likely 70 = .ok (.iconst (-1), 1) := by decide +kernel
theorem dX8_likely_71 : decode cX8_likely 71 = .ok (.goto 36, 3) := by decide +kernel
theorem dX8_likely_74 : decode cX8_likely 74 = .ok (.iload 5, 2) := by decide +kernel
theorem dX8_likely_76 : decode cX8_likely 76 = .ok (.i2l, 1) := by decide +kernel
theorem dX8_likely_77 : decode cX8_likely 77 = .ok (.iload_n 2, 1) := by decide +kernel
theorem dX8_likely_78 : decode cX8_likely 78 = .ok (.invokestatic 223, 3) := by decide +kernel
theorem dX8_likely_81 : decode cX8_likely 81 = .ok (.ifCond .eq 15, 3) := by decide +kernel
theorem dX8_likely_84 : decode cX8_likely 84 = .ok (.aload_n 0, 1) := by decide +kernel
theorem dX8_likely_85 : decode cX8_likely 85 = .ok (.getfield 13, 3) := by decide +kernel
theorem dX8_likely_88 : decode cX8_likely 88 = .ok (.bipush 15, 2) := by decide +kernel
theorem dX8_likely_90 : decode cX8_likely 90 = .ok (.iload_n 2, 1) := by decide +kernel
theorem dX8_likely_91 : decode cX8_likely 91 = .ok (.iadd, 1) := by decide +kernel
theorem dX8_likely_92 : decode cX8_likely 92 = .ok (.iaload, 1) := by decide +kernel
theorem dX8_likely_93 : decode cX8_likely 93 = .ok (.goto 4, 3) := by decide +kernel
theorem dX8_likely_96 : decode cX8_likely 96 = .ok (.iconst 0, 1) := by decide +kernel
theorem dX8_likely_97 : decode cX8_likely 97 = .ok (.aload_n 0, 1) := by decide +kernel
theorem dX8_likely_98 : decode cX8_likely 98 = .ok (.iload 5, 2) := by decide +kernel
theorem dX8_likely_100 : decode cX8_likely 100 = .ok (.invokevirtual 438, 3) := by decide +kernel
theorem dX8_likely_103 : decode cX8_likely 103 = .ok (.iload_n 3, 1) := by decide +kernel
theorem dX8_likely_104 : decode cX8_likely 104 = .ok (.invokestatic 441, 3) := by decide +kernel
theorem dX8_likely_107 : decode cX8_likely 107 = .ok (.ireturn, 1) := by decide +kernel
def f_X8_likely_36  (s : zS) : Option (Int32 × zS) :=
  some ((-2 : Int32), s)
set_option maxRecDepth 20000 in
theorem b_X8_likely_36 {X : zX} (hX : zx_ok X cX8_likely RX8 6) (hT : zx_rt X (some .int) (zR 66 1387)) : ∀  (s : zS), zV X (zq X zrI) 6 36 [] [] s (f_X8_likely_36  s) := by
  intro  s
  unfold f_X8_likely_36
  refine zv_bipush (v := (-2 : Int32)) hX dX8_likely_36 zi_b_m2 ?_
  exact zv_ireti hX hT dX8_likely_38
def f_X8_likely_107 (w0 : Int32) (s : zS) : Option (Int32 × zS) :=
  some (w0, s)
set_option maxRecDepth 20000 in
theorem b_X8_likely_107 {X : zX} (hX : zx_ok X cX8_likely RX8 6) (hT : zx_rt X (some .int) (zR 66 1387)) : ∀ (w0 : Int32) (s : zS), zV X (zq X zrI) 6 107 [] [.int w0] s (f_X8_likely_107 w0 s) := by
  intro w0 s
  unfold f_X8_likely_107
  exact zv_ireti hX hT dX8_likely_107
def f_X8_likely_97 (v3 : Int32) (v5 : Int32) (w0 : Int32) (s : zS) : Option (Int32 × zS) :=
  zbd (f_X8_oddsOf v5 s) fun r1 s2 =>
  zbd (f_X8_part1 w0 r1 v3 s2) fun r3 s4 =>
  f_X8_likely_107 r3 s4
set_option maxRecDepth 20000 in
theorem b_X8_likely_97 {X : zX} (hX : zx_ok X cX8_likely RX8 6) (hT : zx_rt X (some .int) (zR 66 1387)) : ∀ (v3 : Int32) (v5 : Int32) (w0 : Int32) (s : zS), zV X (zq X zrI) 6 97 [(0, .ref (zx_ad X 76)), (3, .int v3), (5, .int v5)] [.int w0] s (f_X8_likely_97 v3 v5 w0 s) := by
  intro v3 v5 w0 s
  unfold f_X8_likely_97
  refine zv_aload_n hX dX8_likely_97 0 rfl ?_
  refine zv_iload hX dX8_likely_98 2 rfl ?_
  refine zv_cVI [.int v5] (rest := [.int w0]) hX hT.2.2.2.2 (c_X8_oddsOf (zx_Y X) v5 s) wv_X8_oddsOf c9_8 zd_76 wm_X8_438 rfl (Nat.le_of_ble_eq_true rfl) (Nat.le_of_ble_eq_true rfl) rfl (Nat.le_of_ble_eq_true rfl) dX8_likely_100 (fun r1 s2 => ?_)
  refine zv_iload_n hX dX8_likely_103 1 rfl ?_
  refine zv_cSI [.int w0, .int r1, .int v3] (rest := []) hX hT.2.2.2.2 (c_X8_part1 (zx_Y X) w0 r1 v3 s2) wv_X8_part1 wm_X8_441 rfl (Nat.le_of_ble_eq_true rfl) (Nat.le_of_ble_eq_true rfl) rfl (Nat.le_of_ble_eq_true rfl) dX8_likely_104 (fun r3 s4 => ?_)
  exact zv_sub [] rfl (b_X8_likely_107 hX hT r3 s4)
def f_X8_likely (v1 : Int32) (v2 : Int32) (v3 : Int32) (s : zS) : Option (Int32 × zS) :=
  zb (zs_i s 76 0 (0 : Int32)) fun s5 =>
  zbd (f_X8_within (v1.toInt64) (0 : Int64) (3 : Int64) s5) fun r6 s7 =>
  if r6 = 0 then
  (f_X8_likely_36 s7)
  else
  zbd (f_X8_isPerson (v2.toInt64) s7) fun r8 s9 =>
  if r8 = 0 then
  (f_X8_likely_36 s9)
  else
  zbd (f_X8_within (v3.toInt64) (0 : Int64) (1 : Int64) s9) fun r10 s11 =>
  if ¬ r10 = 0 then
  (zbd (f_X8_noBlot v1 s11) fun r12 s13 =>
  if r12 = 0 then
  (zbd (f_X8_blotSet v1 s13) fun r14 s15 =>
  zbd (f_X8_oddsOf r14 s15) fun r16 s17 =>
  if ¬ r16 = 0 then
  (zbd (f_X8_isIn (r14.toInt64) v2 s17) fun r18 s19 =>
  if r18 = 0 then
  (f_X8_likely_97 v3 r14 (0 : Int32) s19)
  else
  (zr_i s19 77 ((nI 15) + v2)).bind fun x20 =>
  f_X8_likely_97 v3 r14 x20 s19)
  else
  f_X8_likely_107 (-1 : Int32) s17)
  else
  some (r12, s13))
  else
  f_X8_likely_36 s11
set_option maxRecDepth 20000 in
theorem c_X8_likely (Y : zG) (v1 : Int32) (v2 : Int32) (v3 : Int32) (s : zS) : zM Y yX8_likely cX8_likely 6 (some .int) (zR 66 1387) [.ref (zy_a Y 76), .int v1, .int v2, .int v3] s zrI (f_X8_likely v1 v2 v3 s) := by
  refine zm_start (by decide +kernel) (Nat.le_of_ble_eq_true rfl) ?_
  intro X hY hT hX
  subst hY
  have hX : zx_ok X cX8_likely RX8 6 := hX
  show zV X (zq X zrI) 6 0 [(0, .ref (zx_ad X 76)), (1, .int v1), (2, .int v2), (3, .int v3)] [] s _
  unfold f_X8_likely
  refine zv_aload_n hX dX8_likely_0 0 rfl ?_
  refine zv_iconst (v := (0 : Int32)) hX dX8_likely_1 zi_i_0 ?_
  refine zv_puti hX wf_X8_1 wc_8 wk_8_0 zd_76 zj_76_0 c9_8 zr_76_0 dX8_likely_2 (fun s5 => ?_)
  refine zv_iload_n hX dX8_likely_5 1 rfl ?_
  refine zv_i2l hX dX8_likely_6 ?_
  refine zv_lconst (v := (0 : Int64)) hX dX8_likely_7 zi_l_0 ?_
  refine zv_ldc2 hX wn_X8_350 dX8_likely_8 ?_
  refine zv_cSI [.long (v1.toInt64), .long (0 : Int64), .long (3 : Int64)] (rest := []) hX hT.2.2.2.2 (c_X8_within (zx_Y X) (v1.toInt64) (0 : Int64) (3 : Int64) s5) wv_X8_within wm_X8_154 rfl (Nat.le_of_ble_eq_true rfl) (Nat.le_of_ble_eq_true rfl) rfl (Nat.le_of_ble_eq_true rfl) dX8_likely_11 (fun r6 s7 => ?_)
  refine zv_if_eq (tgt := 36) hX dX8_likely_14 rfl ?_ ?_
  · exact zv_sub [] rfl (b_X8_likely_36 hX hT  s7)
  · refine zv_aload_n hX dX8_likely_17 0 rfl ?_
    refine zv_iload_n hX dX8_likely_18 2 rfl ?_
    refine zv_i2l hX dX8_likely_19 ?_
    refine zv_cVI [.long (v2.toInt64)] (rest := []) hX hT.2.2.2.2 (c_X8_isPerson (zx_Y X) (v2.toInt64) s7) wv_X8_isPerson c9_8 zd_76 wm_X8_219 rfl (Nat.le_of_ble_eq_true rfl) (Nat.le_of_ble_eq_true rfl) rfl (Nat.le_of_ble_eq_true rfl) dX8_likely_20 (fun r8 s9 => ?_)
    refine zv_if_eq (tgt := 36) hX dX8_likely_23 rfl ?_ ?_
    · exact zv_sub [] rfl (b_X8_likely_36 hX hT  s9)
    · refine zv_iload_n hX dX8_likely_26 3 rfl ?_
      refine zv_i2l hX dX8_likely_27 ?_
      refine zv_lconst (v := (0 : Int64)) hX dX8_likely_28 zi_l_0 ?_
      refine zv_lconst (v := (1 : Int64)) hX dX8_likely_29 zi_l_1 ?_
      refine zv_cSI [.long (v3.toInt64), .long (0 : Int64), .long (1 : Int64)] (rest := []) hX hT.2.2.2.2 (c_X8_within (zx_Y X) (v3.toInt64) (0 : Int64) (1 : Int64) s9) wv_X8_within wm_X8_154 rfl (Nat.le_of_ble_eq_true rfl) (Nat.le_of_ble_eq_true rfl) rfl (Nat.le_of_ble_eq_true rfl) dX8_likely_30 (fun r10 s11 => ?_)
      refine zv_if_ne (tgt := 39) hX dX8_likely_33 rfl ?_ ?_
      · refine zv_aload_n hX dX8_likely_39 0 rfl ?_
        refine zv_iload_n hX dX8_likely_40 1 rfl ?_
        refine zv_cVI [.int v1] (rest := []) hX hT.2.2.2.2 (c_X8_noBlot (zx_Y X) v1 s11) wv_X8_noBlot c9_8 zd_76 wm_X8_429 rfl (Nat.le_of_ble_eq_true rfl) (Nat.le_of_ble_eq_true rfl) rfl (Nat.le_of_ble_eq_true rfl) dX8_likely_41 (fun r12 s13 => ?_)
        refine zv_istore (lv' := [(4, .int r12), (0, .ref (zx_ad X 76)), (1, .int v1), (2, .int v2), (3, .int v3)]) hX dX8_likely_44 (by decide) rfl ?_
        refine zv_iload hX dX8_likely_46 0 rfl ?_
        refine zv_if_eq (tgt := 54) hX dX8_likely_48 rfl ?_ ?_
        · refine zv_aload_n hX dX8_likely_54 1 rfl ?_
          refine zv_iload_n hX dX8_likely_55 2 rfl ?_
          refine zv_cVI [.int v1] (rest := []) hX hT.2.2.2.2 (c_X8_blotSet (zx_Y X) v1 s13) wv_X8_blotSet c9_8 zd_76 wm_X8_432 rfl (Nat.le_of_ble_eq_true rfl) (Nat.le_of_ble_eq_true rfl) rfl (Nat.le_of_ble_eq_true rfl) dX8_likely_56 (fun r14 s15 => ?_)
          refine zv_istore (lv' := [(5, .int r14), (4, .int r12), (0, .ref (zx_ad X 76)), (1, .int v1), (2, .int v2), (3, .int v3)]) hX dX8_likely_59 (by decide) rfl ?_
          refine zv_aload_n hX dX8_likely_61 2 rfl ?_
          refine zv_iload hX dX8_likely_62 0 rfl ?_
          refine zv_cVI [.int r14] (rest := []) hX hT.2.2.2.2 (c_X8_oddsOf (zx_Y X) r14 s15) wv_X8_oddsOf c9_8 zd_76 wm_X8_438 rfl (Nat.le_of_ble_eq_true rfl) (Nat.le_of_ble_eq_true rfl) rfl (Nat.le_of_ble_eq_true rfl) dX8_likely_64 (fun r16 s17 => ?_)
          refine zv_if_ne (tgt := 74) hX dX8_likely_67 rfl ?_ ?_
          · refine zv_iload hX dX8_likely_74 0 rfl ?_
            refine zv_i2l hX dX8_likely_76 ?_
            refine zv_iload_n hX dX8_likely_77 4 rfl ?_
            refine zv_cSI [.long (r14.toInt64), .int v2] (rest := []) hX hT.2.2.2.2 (c_X8_isIn (zx_Y X) (r14.toInt64) v2 s17) wv_X8_isIn wm_X8_223 rfl (Nat.le_of_ble_eq_true rfl) (Nat.le_of_ble_eq_true rfl) rfl (Nat.le_of_ble_eq_true rfl) dX8_likely_78 (fun r18 s19 => ?_)
            refine zv_if_eq (tgt := 96) hX dX8_likely_81 rfl ?_ ?_
            · refine zv_iconst (v := (0 : Int32)) hX dX8_likely_96 zi_i_0 ?_
              exact zv_sub [2, 5, 0] rfl (b_X8_likely_97 hX hT v3 r14 (0 : Int32) s19)
            · refine zv_aload_n hX dX8_likely_84 2 rfl ?_
              refine zv_geta hX wf_X8_13 wc_8 zd_76 zj_76_1 c9_8 zr_76_1 (by decide) dX8_likely_85 ?_
              refine zv_bipush (v := (nI 15)) hX dX8_likely_88 zi_b_15 ?_
              refine zv_iload_n hX dX8_likely_90 4 rfl ?_
              refine zv_iadd hX dX8_likely_91 ?_
              refine zv_iald hX dX8_likely_92 (fun x20 => ?_)
              refine zv_goto (tgt := 97) hX dX8_likely_93 rfl ?_
              exact zv_sub [2, 5, 0] rfl (b_X8_likely_97 hX hT v3 r14 x20 s19)
          · refine zv_iconst (v := (-1 : Int32)) hX dX8_likely_70 zi_i_m1 ?_
            refine zv_goto (tgt := 107) hX dX8_likely_71 rfl ?_
            exact zv_sub [] rfl (b_X8_likely_107 hX hT (-1 : Int32) s17)
        · refine zv_iload hX dX8_likely_51 0 rfl ?_
          exact zv_ireti hX hT dX8_likely_53
      · exact zv_sub [] rfl (b_X8_likely_36 hX hT  s11)
theorem dX8_likes_0 : decode cX8_likes 0 = .ok (.aload_n 0, 1) := by decide +kernel
theorem dX8_likes_1 : decode cX8_likes 1 = .ok (.iconst 0, 1) := by decide +kernel
theorem dX8_likes_2 : decode cX8_likes 2 = .ok (.putfield 1, 3) := by decide +kernel
theorem dX8_likes_5 : decode cX8_likes 5 = .ok (.aload_n 0, 1) := by decide +kernel
theorem dX8_likes_6 : decode cX8_likes 6 = .ok (.iload_n 1, 1) := by decide +kernel
theorem dX8_likes_7 : decode cX8_likes 7 = .ok (.i2l, 1) := by decide +kernel
theorem dX8_likes_8 : decode cX8_likes 8 = .ok (.iload_n 2, 1) := by decide +kernel
theorem dX8_likes_9 : decode cX8_likes 9 = .ok (.i2l, 1) := by decide +kernel
theorem dX8_likes_10 : decode cX8_likes 10 = .ok (.invokevirtual 290, 3) := by decide +kernel
theorem dX8_likes_13 : decode cX8_likes 13 = .ok (.ifCond .ne 7, 3) := by decide +kernel
theorem dX8_likes_16 : decode cX8_likes 16 = .ok (.ldc_w 294, 3) := by decide +kernel
theorem dX8_likes_19 : decode cX8_likes 19 = .ok (.ireturn, 1) := by decide +kernel
theorem dX8_likes_20 : decode cX8_likes 20 = .ok (.aload_n 0, 1) := by decide +kernel
theorem dX8_likes_21 : decode cX8_likes 21 = .ok (.invokevirtual 284, 3) := by decide +kernel
theorem dX8_likes_24 : decode cX8_likes 24 = .ok (.aload_n 0, 1) := by decide +kernel
theorem dX8_likes_25 : decode cX8_likes 25 = .ok (.getfield 51, 3) := by decide +kernel
theorem dX8_likes_28 : decode cX8_likes 28 = .ok (.bipush 7, 2) := by decide +kernel
theorem dX8_likes_30 : decode cX8_likes 30 = .ok (.iload_n 1, 1) := by decide +kernel
theorem dX8_likes_31 : decode cX8_likes 31 = .ok (.imul, 1) := by decide +kernel
theorem dX8_likes_32 : decode cX8_likes 32 = .ok (.iload_n 2, 1) := by decide +kernel
theorem dX8_likes_33 : decode cX8_likes 33 = .ok (.iadd, 1) := by decide +kernel
theorem dX8_likes_34 : decode cX8_likes 34 = .ok (.iaload, 1) := by decide +kernel
theorem dX8_likes_35 : decode cX8_likes 35 = .ok (.ireturn, 1) := by decide +kernel
def f_X8_likes (v1 : Int32) (v2 : Int32) (s : zS) : Option (Int32 × zS) :=
  zb (zs_i s 76 0 (0 : Int32)) fun s1 =>
  zbd (f_X8_areTwo (v1.toInt64) (v2.toInt64) s1) fun r2 s3 =>
  if ¬ r2 = 0 then
  (zbd (f_X8_lays s3) fun _ s4 =>
  (zr_i s4 88 (((nI 7) * v1) + v2)).bind fun x5 =>
  some (x5, s4))
  else
  some ((-99000002 : Int32), s3)
set_option maxRecDepth 20000 in
theorem c_X8_likes (Y : zG) (v1 : Int32) (v2 : Int32) (s : zS) : zM Y yX8_likes cX8_likes 3 (some .int) (zR 71 1755) [.ref (zy_a Y 76), .int v1, .int v2] s zrI (f_X8_likes v1 v2 s) := by
  refine zm_start (by decide +kernel) (Nat.le_of_ble_eq_true rfl) ?_
  intro X hY hT hX
  subst hY
  have hX : zx_ok X cX8_likes RX8 3 := hX
  show zV X (zq X zrI) 3 0 [(0, .ref (zx_ad X 76)), (1, .int v1), (2, .int v2)] [] s _
  unfold f_X8_likes
  refine zv_aload_n hX dX8_likes_0 0 rfl ?_
  refine zv_iconst (v := (0 : Int32)) hX dX8_likes_1 zi_i_0 ?_
  refine zv_puti hX wf_X8_1 wc_8 wk_8_0 zd_76 zj_76_0 c9_8 zr_76_0 dX8_likes_2 (fun s1 => ?_)
  refine zv_aload_n hX dX8_likes_5 0 rfl ?_
  refine zv_iload_n hX dX8_likes_6 1 rfl ?_
  refine zv_i2l hX dX8_likes_7 ?_
  refine zv_iload_n hX dX8_likes_8 2 rfl ?_
  refine zv_i2l hX dX8_likes_9 ?_
  refine zv_cVI [.long (v1.toInt64), .long (v2.toInt64)] (rest := []) hX hT.2.2.2.2 (c_X8_areTwo (zx_Y X) (v1.toInt64) (v2.toInt64) s1) wv_X8_areTwo c9_8 zd_76 wm_X8_290 rfl (Nat.le_of_ble_eq_true rfl) (Nat.le_of_ble_eq_true rfl) rfl (Nat.le_of_ble_eq_true rfl) dX8_likes_10 (fun r2 s3 => ?_)
  refine zv_if_ne (tgt := 20) hX dX8_likes_13 rfl ?_ ?_
  · refine zv_aload_n hX dX8_likes_20 0 rfl ?_
    refine zv_cVV [] (rest := []) hX hT.2.2.2.2 (c_X8_lays (zx_Y X) s3) wv_X8_lays c9_8 zd_76 wm_X8_284 rfl (Nat.le_of_ble_eq_true rfl) (Nat.le_of_ble_eq_true rfl) rfl (Nat.le_of_ble_eq_true rfl) dX8_likes_21 (fun _ s4 => ?_)
    refine zv_aload_n hX dX8_likes_24 0 rfl ?_
    refine zv_geta hX wf_X8_51 wc_8 zd_76 zj_76_25 c9_8 zr_76_25 (by decide) dX8_likes_25 ?_
    refine zv_bipush (v := (nI 7)) hX dX8_likes_28 zi_b_7 ?_
    refine zv_iload_n hX dX8_likes_30 1 rfl ?_
    refine zv_imul hX dX8_likes_31 ?_
    refine zv_iload_n hX dX8_likes_32 2 rfl ?_
    refine zv_iadd hX dX8_likes_33 ?_
    refine zv_iald hX dX8_likes_34 (fun x5 => ?_)
    exact zv_ireti hX hT dX8_likes_35
  · refine zv_ldcw hX wn_X8_294 dX8_likes_16 ?_
    exact zv_ireti hX hT dX8_likes_19
theorem dX8_lists_0 : decode cX8_lists 0 = .ok (.aload_n 0, 1) := by decide +kernel
theorem dX8_lists_1 : decode cX8_lists 1 = .ok (.iconst 0, 1) := by decide +kernel
theorem dX8_lists_2 : decode cX8_lists 2 = .ok (.putfield 1, 3) := by decide +kernel
theorem dX8_lists_5 : decode cX8_lists 5 = .ok (.aload_n 0, 1) := by decide +kernel
theorem dX8_lists_6 : decode cX8_lists 6 = .ok (.iload_n 1, 1) := by decide +kernel
theorem dX8_lists_7 : decode cX8_lists 7 = .ok (.invokevirtual 352, 3) := by decide +kernel
theorem dX8_lists_10 : decode cX8_lists 10 = .ok (.istore_n 3, 1) := by decide +kernel
theorem dX8_lists_11 : decode cX8_lists 11 = .ok (.iload_n 3, 1) := by decide +kernel
theorem dX8_lists_12 : decode cX8_lists 12 = .ok (.ifCond .eq 5, 3) := by decide +kernel
theorem dX8_lists_15 : decode cX8_lists 15 = .ok (.iload_n 3, 1) := by decide +kernel
theorem dX8_lists_16 : decode cX8_lists 16 = .ok (.ireturn, 1) := by decide +kernel
theorem dX8_lists_17 : decode cX8_lists 17 = .ok (.iload_n 2, 1) := by decide +kernel
theorem dX8_lists_18 : decode cX8_lists 18 = .ok (.ifCond .ge 6, 3) := by decide +kernel
theorem dX8_lists_21 : decode cX8_lists 21 = .ok (.bipush (-3), 2) := by decide +kernel
theorem dX8_lists_23 : decode cX8_lists 23 = .ok (.ireturn, 1) := by decide +kernel
theorem dX8_lists_24 : decode cX8_lists 24 = .ok (.aload_n 0, 1) := by decide +kernel
theorem dX8_lists_25 : decode cX8_lists 25 = .ok (.invokevirtual 403, 3) := by decide +kernel
theorem dX8_lists_28 : decode cX8_lists 28 = .ok (.iload_n 2, 1) := by decide +kernel
theorem dX8_lists_29 : decode cX8_lists 29 = .ok (.aload_n 0, 1) := by decide +kernel
theorem dX8_lists_30 : decode cX8_lists 30 = .ok (.getfield 391, 3) := by decide +kernel
theorem dX8_lists_33 : decode cX8_lists 33 = .ok (.if_icmp .lt 6, 3) := by decide +kernel
theorem dX8_lists_36 : decode cX8_lists 36 = .ok (.bipush (-5), 2) := by decide +kernel
theorem dX8_lists_38 : decode cX8_lists 38 = .ok (.ireturn, 1) := by decide +kernel
theorem dX8_lists_39 : decode cX8_lists 39 = .ok (.aload_n 0, 1) := by decide +kernel
theorem dX8_lists_40 : decode cX8_lists 40 = .ok (.getfield 13, 3) := by decide +kernel
theorem dX8_lists_43 : decode cX8_lists 43 = .ok (.iconst 1, 1) := by decide +kernel
theorem dX8_lists_44 : decode cX8_lists 44 = .ok (.iaload, 1) := by decide +kernel
theorem dX8_lists_45 : decode cX8_lists 45 = .ok (.aload_n 0, 1) := by decide +kernel
theorem dX8_lists_46 : decode cX8_lists 46 = .ok (.getfield 81, 3) := by decide +kernel
theorem dX8_lists_49 : decode cX8_lists 49 = .ok (.iload_n 1, 1) := by decide +kernel
theorem dX8_lists_50 : decode cX8_lists 50 = .ok (.iaload, 1) := by decide +kernel
theorem dX8_lists_51 : decode cX8_lists 51 = .ok (.if_icmp .ge 12, 3) := by decide +kernel
theorem dX8_lists_54 : decode cX8_lists 54 = .ok (.aload_n 0, 1) := by decide +kernel
theorem dX8_lists_55 : decode cX8_lists 55 = .ok (.getfield 13, 3) := by decide +kernel
theorem dX8_lists_58 : decode cX8_lists 58 = .ok (.iconst 1, 1) := by decide +kernel
theorem dX8_lists_59 : decode cX8_lists 59 = .ok (.iaload, 1) := by decide +kernel
theorem dX8_lists_60 : decode cX8_lists 60 = .ok (.goto 9, 3) := by decide +kernel
theorem dX8_lists_63 : decode cX8_lists 63 = .ok (.aload_n 0, 1) := by decide +kernel
theorem dX8_lists_64 : decode cX8_lists 64 = .ok (.getfield 81, 3) := by decide +kernel
theorem dX8_lists_67 : decode cX8_lists 67 = .ok (.iload_n 1, 1) := by decide +kernel
theorem dX8_lists_68 : decode cX8_lists 68 = .ok (.iaload, 1) := by decide +kernel
theorem dX8_lists_69 : decode cX8_lists 69 = .ok (.istore 4, 2) := by decide +kernel
theorem dX8_lists_71 : decode cX8_lists 71 = .ok (.iconst 0, 1) := by decide +kernel
theorem dX8_lists_72 : decode cX8_lists 72 = .ok (.istore 5, 2) := by decide +kernel
theorem dX8_lists_74 : decode cX8_lists 74 = .ok (.iload 5, 2) := by decide +kernel
theorem dX8_lists_76 : decode cX8_lists 76 = .ok (.iload 4, 2) := by decide +kernel
theorem dX8_lists_78 : decode cX8_lists 78 = .ok (.if_icmp .ge 34, 3) := by decide +kernel
theorem dX8_lists_81 : decode cX8_lists 81 = .ok (.aload_n 0, 1) := by decide +kernel
theorem dX8_lists_82 : decode cX8_lists 82 = .ok (.getfield 84, 3) := by decide +kernel
theorem dX8_lists_85 : decode cX8_lists 85 = .ok (.bipush 40, 2) := by decide +kernel
theorem dX8_lists_87 : decode cX8_lists 87 = .ok (.iload_n 1, 1) := by decide +kernel
theorem dX8_lists_88 : decode cX8_lists 88 = .ok (.imul, 1) := by decide +kernel
theorem dX8_lists_89 : decode cX8_lists 89 = .ok (.iload 5, 2) := by decide +kernel
theorem dX8_lists_91 : decode cX8_lists 91 = .ok (.iadd, 1) := by decide +kernel
theorem dX8_lists_92 : decode cX8_lists 92 = .ok (.aload_n 0, 1) := by decide +kernel
theorem dX8_lists_93 : decode cX8_lists 93 = .ok (.getfield 63, 3) := by decide +kernel
theorem dX8_lists_96 : decode cX8_lists 96 = .ok (.bipush 7, 2) := by decide +kernel
theorem dX8_lists_98 : decode cX8_lists 98 = .ok (.iload_n 2, 1) := by decide +kernel
theorem dX8_lists_99 : decode cX8_lists 99 = .ok (.imul, 1) := by decide +kernel
theorem dX8_lists_100 : decode cX8_lists 100 = .ok (.iload 5, 2) := by decide +kernel
theorem dX8_lists_102 : decode cX8_lists 102 = .ok (.iadd, 1) := by decide +kernel
theorem dX8_lists_103 : decode cX8_lists 103 = .ok (.iaload, 1) := by decide +kernel
theorem dX8_lists_104 : decode cX8_lists 104 = .ok (.i2l, 1) := by decide +kernel
theorem dX8_lists_105 : decode cX8_lists 105 = .ok (.lastore, 1) := by decide +kernel
theorem dX8_lists_106 : decode cX8_lists 106 = .ok (.iinc 5 1, 3) := by decide +kernel
theorem dX8_lists_109 : decode cX8_lists 109 = .ok (.goto (-35), 3) := by decide +kernel
theorem dX8_lists_112 : decode cX8_lists 112 = .ok (.iload 4, 2) := by decide +kernel
theorem dX8_lists_114 : decode cX8_lists 114 = .ok (.ireturn, 1) := by decide +kernel
def f_X8_lists_74 : Nat → Int32 → Int32 → Int32 → Int32 → zS → Option (Int32 × zS)
  | 0, _, _, _, _, _ => none
  | n + 1, v1, v2, v4, v5, s =>
    if v4 ≤ v5 then
    (some (v4, s))
    else
    (zr_i s 92 (((nI 7) * v2) + v5)).bind fun x1 =>
    (zw_l s 99 (((nI 40) * v1) + v5) (x1.toInt64)).bind fun s2 =>
    zb (v5 + (1 : Int32)) fun x3 =>
    f_X8_lists_74 n v1 v2 v4 x3 s2
set_option maxRecDepth 20000 in
theorem b_X8_lists_74 {X : zX} (hX : zx_ok X cX8_lists RX8 6) (hT : zx_rt X (some .int) (zR 72 1775)) : ∀ (n : Nat) (v1 : Int32) (v2 : Int32) (v4 : Int32) (v5 : Int32) (s : zS), zV X (zq X zrI) 6 74 [(0, .ref (zx_ad X 76)), (1, .int v1), (2, .int v2), (4, .int v4), (5, .int v5)] [] s (f_X8_lists_74 n v1 v2 v4 v5 s) := by
  intro n
  induction n with
  | zero => intro v1 v2 v4 v5 s; exact zv_none
  | succ n ih =>
    intro v1 v2 v4 v5 s
    rw [f_X8_lists_74]
    refine zv_iload hX dX8_lists_74 4 rfl ?_
    refine zv_iload hX dX8_lists_76 3 rfl ?_
    refine zv_icmp_ge (tgt := 112) hX dX8_lists_78 rfl ?_ ?_
    · refine zv_iload hX dX8_lists_112 3 rfl ?_
      exact zv_ireti hX hT dX8_lists_114
    · refine zv_aload_n hX dX8_lists_81 0 rfl ?_
      refine zv_geta hX wf_X8_84 wc_8 zd_76 zj_76_40 c9_8 zr_76_40 (by decide) dX8_lists_82 ?_
      refine zv_bipush (v := (nI 40)) hX dX8_lists_85 zi_b_40 ?_
      refine zv_iload_n hX dX8_lists_87 1 rfl ?_
      refine zv_imul hX dX8_lists_88 ?_
      refine zv_iload hX dX8_lists_89 4 rfl ?_
      refine zv_iadd hX dX8_lists_91 ?_
      refine zv_aload_n hX dX8_lists_92 0 rfl ?_
      refine zv_geta hX wf_X8_63 wc_8 zd_76 zj_76_31 c9_8 zr_76_31 (by decide) dX8_lists_93 ?_
      refine zv_bipush (v := (nI 7)) hX dX8_lists_96 zi_b_7 ?_
      refine zv_iload_n hX dX8_lists_98 2 rfl ?_
      refine zv_imul hX dX8_lists_99 ?_
      refine zv_iload hX dX8_lists_100 4 rfl ?_
      refine zv_iadd hX dX8_lists_102 ?_
      refine zv_iald hX dX8_lists_103 (fun x1 => ?_)
      refine zv_i2l hX dX8_lists_104 ?_
      refine zv_last hX dX8_lists_105 (fun s2 => ?_)
      refine zv_iincB (lw := fun x3 => [(5, .int x3), (0, .ref (zx_ad X 76)), (1, .int v1), (2, .int v2), (4, .int v4)]) hX dX8_lists_106 4 rfl zi_i_1 (by decide) (fun _ => rfl) (fun x3 => ?_)
      refine zv_goto (tgt := 74) hX dX8_lists_109 rfl ?_
      exact zv_sub [1, 2, 3, 4, 0] rfl (ih v1 v2 v4 x3 s2)
def f_X8_lists_69 (v1 : Int32) (v2 : Int32) (w0 : Int32) (s : zS) : Option (Int32 × zS) :=
  f_X8_lists_74 zFU v1 v2 w0 (0 : Int32) s
set_option maxRecDepth 20000 in
theorem b_X8_lists_69 {X : zX} (hX : zx_ok X cX8_lists RX8 6) (hT : zx_rt X (some .int) (zR 72 1775)) : ∀ (v1 : Int32) (v2 : Int32) (w0 : Int32) (s : zS), zV X (zq X zrI) 6 69 [(0, .ref (zx_ad X 76)), (1, .int v1), (2, .int v2)] [.int w0] s (f_X8_lists_69 v1 v2 w0 s) := by
  intro v1 v2 w0 s
  unfold f_X8_lists_69
  refine zv_istore (lv' := [(4, .int w0), (0, .ref (zx_ad X 76)), (1, .int v1), (2, .int v2)]) hX dX8_lists_69 (by decide) rfl ?_
  refine zv_iconst (v := (0 : Int32)) hX dX8_lists_71 zi_i_0 ?_
  refine zv_istore (lv' := [(5, .int (0 : Int32)), (4, .int w0), (0, .ref (zx_ad X 76)), (1, .int v1), (2, .int v2)]) hX dX8_lists_72 (by decide) rfl ?_
  exact zv_sub [2, 3, 4, 1, 0] rfl (b_X8_lists_74 hX hT zFU v1 v2 w0 (0 : Int32) s)
def f_X8_lists (v1 : Int32) (v2 : Int32) (s : zS) : Option (Int32 × zS) :=
  zb (zs_i s 76 0 (0 : Int32)) fun s4 =>
  zbd (f_X8_noTray v1 s4) fun r5 s6 =>
  if r5 = 0 then
  (if 0 ≤ v2 then
  (zbd (f_X8_laysHeld s6) fun _ s7 =>
  if v2 < (s7.1 76 32) then
  ((zr_i s7 77 (1 : Int32)).bind fun x8 =>
  (zr_i s7 98 v1).bind fun x9 =>
  if x9 ≤ x8 then
  ((zr_i s7 98 v1).bind fun x10 =>
  f_X8_lists_69 v1 v2 x10 s7)
  else
  (zr_i s7 77 (1 : Int32)).bind fun x11 =>
  f_X8_lists_69 v1 v2 x11 s7)
  else
  some ((-5 : Int32), s7))
  else
  some ((-3 : Int32), s6))
  else
  some (r5, s6)
set_option maxRecDepth 20000 in
theorem c_X8_lists (Y : zG) (v1 : Int32) (v2 : Int32) (s : zS) : zM Y yX8_lists cX8_lists 6 (some .int) (zR 72 1775) [.ref (zy_a Y 76), .int v1, .int v2] s zrI (f_X8_lists v1 v2 s) := by
  refine zm_start (by decide +kernel) (Nat.le_of_ble_eq_true rfl) ?_
  intro X hY hT hX
  subst hY
  have hX : zx_ok X cX8_lists RX8 6 := hX
  show zV X (zq X zrI) 6 0 [(0, .ref (zx_ad X 76)), (1, .int v1), (2, .int v2)] [] s _
  unfold f_X8_lists
  refine zv_aload_n hX dX8_lists_0 0 rfl ?_
  refine zv_iconst (v := (0 : Int32)) hX dX8_lists_1 zi_i_0 ?_
  refine zv_puti hX wf_X8_1 wc_8 wk_8_0 zd_76 zj_76_0 c9_8 zr_76_0 dX8_lists_2 (fun s4 => ?_)
  refine zv_aload_n hX dX8_lists_5 0 rfl ?_
  refine zv_iload_n hX dX8_lists_6 1 rfl ?_
  refine zv_cVI [.int v1] (rest := []) hX hT.2.2.2.2 (c_X8_noTray (zx_Y X) v1 s4) wv_X8_noTray c9_8 zd_76 wm_X8_352 rfl (Nat.le_of_ble_eq_true rfl) (Nat.le_of_ble_eq_true rfl) rfl (Nat.le_of_ble_eq_true rfl) dX8_lists_7 (fun r5 s6 => ?_)
  refine zv_istore_n (lv' := [(3, .int r5), (0, .ref (zx_ad X 76)), (1, .int v1), (2, .int v2)]) hX dX8_lists_10 (by decide) rfl ?_
  refine zv_iload_n hX dX8_lists_11 0 rfl ?_
  refine zv_if_eq (tgt := 17) hX dX8_lists_12 rfl ?_ ?_
  · refine zv_iload_n hX dX8_lists_17 3 rfl ?_
    refine zv_if_ge (tgt := 24) hX dX8_lists_18 rfl ?_ ?_
    · refine zv_aload_n hX dX8_lists_24 1 rfl ?_
      refine zv_cVV [] (rest := []) hX hT.2.2.2.2 (c_X8_laysHeld (zx_Y X) s6) wv_X8_laysHeld c9_8 zd_76 wm_X8_403 rfl (Nat.le_of_ble_eq_true rfl) (Nat.le_of_ble_eq_true rfl) rfl (Nat.le_of_ble_eq_true rfl) dX8_lists_25 (fun _ s7 => ?_)
      refine zv_iload_n hX dX8_lists_28 3 rfl ?_
      refine zv_aload_n hX dX8_lists_29 1 rfl ?_
      refine zv_geti hX wf_X8_391 wc_8 zd_76 zj_76_32 c9_8 zr_76_32 dX8_lists_30 ?_
      refine zv_icmp_lt (tgt := 39) hX dX8_lists_33 rfl ?_ ?_
      · refine zv_aload_n hX dX8_lists_39 1 rfl ?_
        refine zv_geta hX wf_X8_13 wc_8 zd_76 zj_76_1 c9_8 zr_76_1 (by decide) dX8_lists_40 ?_
        refine zv_iconst (v := (1 : Int32)) hX dX8_lists_43 zi_i_1 ?_
        refine zv_iald hX dX8_lists_44 (fun x8 => ?_)
        refine zv_aload_n hX dX8_lists_45 1 rfl ?_
        refine zv_geta hX wf_X8_81 wc_8 zd_76 zj_76_39 c9_8 zr_76_39 (by decide) dX8_lists_46 ?_
        refine zv_iload_n hX dX8_lists_49 2 rfl ?_
        refine zv_iald hX dX8_lists_50 (fun x9 => ?_)
        refine zv_icmp_ge (tgt := 63) hX dX8_lists_51 rfl ?_ ?_
        · refine zv_aload_n hX dX8_lists_63 1 rfl ?_
          refine zv_geta hX wf_X8_81 wc_8 zd_76 zj_76_39 c9_8 zr_76_39 (by decide) dX8_lists_64 ?_
          refine zv_iload_n hX dX8_lists_67 2 rfl ?_
          refine zv_iald hX dX8_lists_68 (fun x10 => ?_)
          exact zv_sub [1, 2, 3] rfl (b_X8_lists_69 hX hT v1 v2 x10 s7)
        · refine zv_aload_n hX dX8_lists_54 1 rfl ?_
          refine zv_geta hX wf_X8_13 wc_8 zd_76 zj_76_1 c9_8 zr_76_1 (by decide) dX8_lists_55 ?_
          refine zv_iconst (v := (1 : Int32)) hX dX8_lists_58 zi_i_1 ?_
          refine zv_iald hX dX8_lists_59 (fun x11 => ?_)
          refine zv_goto (tgt := 69) hX dX8_lists_60 rfl ?_
          exact zv_sub [1, 2, 3] rfl (b_X8_lists_69 hX hT v1 v2 x11 s7)
      · refine zv_bipush (v := (-5 : Int32)) hX dX8_lists_36 zi_b_m5 ?_
        exact zv_ireti hX hT dX8_lists_38
    · refine zv_bipush (v := (-3 : Int32)) hX dX8_lists_21 zi_b_m3 ?_
      exact zv_ireti hX hT dX8_lists_23
  · refine zv_iload_n hX dX8_lists_15 0 rfl ?_
    exact zv_ireti hX hT dX8_lists_16
