theorem dX1_tryMark_0 : decode cX1_tryMark 0 = .ok (.aload_n 0, 1) := by decide +kernel
theorem dX1_tryMark_1 : decode cX1_tryMark 1 = .ok (.getfield 9, 3) := by decide +kernel
theorem dX1_tryMark_4 : decode cX1_tryMark 4 = .ok (.iload_n 1, 1) := by decide +kernel
theorem dX1_tryMark_5 : decode cX1_tryMark 5 = .ok (.invokevirtual 50, 3) := by decide +kernel
theorem dX1_tryMark_8 : decode cX1_tryMark 8 = .ok (.ifCond .eq 13, 3) := by decide +kernel
theorem dX1_tryMark_11 : decode cX1_tryMark 11 = .ok (.iload_n 2, 1) := by decide +kernel
theorem dX1_tryMark_12 : decode cX1_tryMark 12 = .ok (.ifCond .lt 9, 3) := by decide +kernel
theorem dX1_tryMark_15 : decode cX1_tryMark 15 = .ok (.iload_n 2, 1) := by decide +kernel
theorem dX1_tryMark_16 : decode cX1_tryMark 16 = .ok (.bipush 10, 2) := by decide +kernel
theorem dX1_tryMark_18 : decode cX1_tryMark 18 = .ok (.if_icmp .lt 5, 3) := by decide +kernel
theorem dX1_tryMark_21 : decode cX1_tryMark 21 = .ok (.iconst 1, 1) := by decide +kernel
theorem dX1_tryMark_22 : decode cX1_tryMark 22 = .ok (.ireturn, 1) := by decide +kernel
theorem dX1_tryMark_23 : decode cX1_tryMark 23 = .ok (.aload_n 0, 1) := by decide +kernel
theorem dX1_tryMark_24 : decode cX1_tryMark 24 = .ok (.getfield 9, 3) := by decide +kernel
theorem dX1_tryMark_27 : decode cX1_tryMark 27 = .ok (.iload_n 1, 1) := by decide +kernel
theorem dX1_tryMark_28 : decode cX1_tryMark 28 = .ok (.iload_n 2, 1) := by decide +kernel
theorem dX1_tryMark_29 : decode cX1_tryMark 29 = .ok (.invokevirtual 61, 3) := by decide +kernel
theorem dX1_tryMark_32 : decode cX1_tryMark 32 = .ok (.iconst 0, 1) := by decide +kernel
theorem dX1_tryMark_33 : decode cX1_tryMark 33 = .ok (.ireturn, 1) := by decide +kernel
def f_X1_tryMark_21  (s : zS) : Option (Int32 × zS) :=
  some ((1 : Int32), s)
set_option maxRecDepth 20000 in
theorem b_X1_tryMark_21 {X : zX} (hX : zx_ok X cX1_tryMark RX1 3) (hT : zx_rt X (some .int) (zR 1 22)) : ∀  (s : zS), zV X (zq X zrI) 3 21 [] [] s (f_X1_tryMark_21  s) := by
  intro  s
  unfold f_X1_tryMark_21
  refine zv_iconst (v := (1 : Int32)) hX dX1_tryMark_21 zi_i_1 ?_
  exact zv_ireti hX hT dX1_tryMark_22
def f_X1_tryMark (v1 : Int32) (v2 : Int32) (s : zS) : Option (Int32 × zS) :=
  zbd (f_X5_has_3 v1 s) fun r1 s2 =>
  if r1 = 0 then
  (f_X1_tryMark_21 s2)
  else
  if v2 < 0 then
  (f_X1_tryMark_21 s2)
  else
  if v2 < (nI 10) then
  (zbd (f_X5_setMark_3 v1 v2 s2) fun _ s3 =>
  some ((0 : Int32), s3))
  else
  f_X1_tryMark_21 s2
set_option maxRecDepth 20000 in
theorem c_X1_tryMark (Y : zG) (v1 : Int32) (v2 : Int32) (s : zS) : zM Y yX1_tryMark cX1_tryMark 3 (some .int) (zR 1 22) [.ref (zy_a Y 72), .int v1, .int v2] s zrI (f_X1_tryMark v1 v2 s) := by
  refine zm_start (by decide +kernel) (Nat.le_of_ble_eq_true rfl) ?_
  intro X hY hT hX
  subst hY
  have hX : zx_ok X cX1_tryMark RX1 3 := hX
  show zV X (zq X zrI) 3 0 [(0, .ref (zx_ad X 72)), (1, .int v1), (2, .int v2)] [] s _
  unfold f_X1_tryMark
  refine zv_aload_n hX dX1_tryMark_0 0 rfl ?_
  refine zv_geta hX wf_X1_9 wc_1 zd_72 zj_72_0 c9_1 zr_72_0 (by decide) dX1_tryMark_1 ?_
  refine zv_iload_n hX dX1_tryMark_4 1 rfl ?_
  refine zv_cVI [.int v1] (rest := []) hX hT.2.2.2.2 (c_X5_has_3 (zx_Y X) v1 s) wv_X5_has c9_5 zd_3 wm_X1_50 rfl (Nat.le_of_ble_eq_true rfl) (Nat.le_of_ble_eq_true rfl) rfl (Nat.le_of_ble_eq_true rfl) dX1_tryMark_5 (fun r1 s2 => ?_)
  refine zv_if_eq (tgt := 21) hX dX1_tryMark_8 rfl ?_ ?_
  · exact zv_sub [] rfl (b_X1_tryMark_21 hX hT  s2)
  · refine zv_iload_n hX dX1_tryMark_11 2 rfl ?_
    refine zv_if_lt (tgt := 21) hX dX1_tryMark_12 rfl ?_ ?_
    · exact zv_sub [] rfl (b_X1_tryMark_21 hX hT  s2)
    · refine zv_iload_n hX dX1_tryMark_15 2 rfl ?_
      refine zv_bipush (v := (nI 10)) hX dX1_tryMark_16 zi_b_10 ?_
      refine zv_icmp_lt (tgt := 23) hX dX1_tryMark_18 rfl ?_ ?_
      · refine zv_aload_n hX dX1_tryMark_23 0 rfl ?_
        refine zv_geta hX wf_X1_9 wc_1 zd_72 zj_72_0 c9_1 zr_72_0 (by decide) dX1_tryMark_24 ?_
        refine zv_iload_n hX dX1_tryMark_27 1 rfl ?_
        refine zv_iload_n hX dX1_tryMark_28 2 rfl ?_
        refine zv_cVV [.int v1, .int v2] (rest := []) hX hT.2.2.2.2 (c_X5_setMark_3 (zx_Y X) v1 v2 s2) wv_X5_setMark c9_5 zd_3 wm_X1_61 rfl (Nat.le_of_ble_eq_true rfl) (Nat.le_of_ble_eq_true rfl) rfl (Nat.le_of_ble_eq_true rfl) dX1_tryMark_29 (fun _ s3 => ?_)
        refine zv_iconst (v := (0 : Int32)) hX dX1_tryMark_32 zi_i_0 ?_
        exact zv_ireti hX hT dX1_tryMark_33
      · exact zv_sub [] rfl (b_X1_tryMark_21 hX hT  s2)
theorem dX1_tryPart_0 : decode cX1_tryPart 0 = .ok (.aload_n 0, 1) := by decide +kernel
theorem dX1_tryPart_1 : decode cX1_tryPart 1 = .ok (.getfield 9, 3) := by decide +kernel
theorem dX1_tryPart_4 : decode cX1_tryPart 4 = .ok (.iload_n 1, 1) := by decide +kernel
theorem dX1_tryPart_5 : decode cX1_tryPart 5 = .ok (.invokevirtual 50, 3) := by decide +kernel
theorem dX1_tryPart_8 : decode cX1_tryPart 8 = .ok (.ifCond .ne 5, 3) := by decide +kernel
theorem dX1_tryPart_11 : decode cX1_tryPart 11 = .ok (.iconst 1, 1) := by decide +kernel
theorem dX1_tryPart_12 : decode cX1_tryPart 12 = .ok (.ireturn, 1) := by decide +kernel
theorem dX1_tryPart_13 : decode cX1_tryPart 13 = .ok (.aload_n 0, 1) := by decide +kernel
theorem dX1_tryPart_14 : decode cX1_tryPart 14 = .ok (.iload_n 1, 1) := by decide +kernel
theorem dX1_tryPart_15 : decode cX1_tryPart 15 = .ok (.invokevirtual 46, 3) := by decide +kernel
theorem dX1_tryPart_18 : decode cX1_tryPart 18 = .ok (.iconst 1, 1) := by decide +kernel
theorem dX1_tryPart_19 : decode cX1_tryPart 19 = .ok (.if_icmp .ne 7, 3) := by decide +kernel
theorem dX1_tryPart_22 : decode cX1_tryPart 22 = .ok (.iconst 0, 1) := by decide +kernel
theorem dX1_tryPart_23 : decode cX1_tryPart 23 = .ok (.goto 4, 3) := by decide +kernel
theorem dX1_tryPart_26 : decode cX1_tryPart 26 = .ok (.iconst 2, 1) := by decide +kernel
theorem dX1_tryPart_27 : decode cX1_tryPart 27 = .ok (.ireturn, 1) := by decide +kernel
def f_X1_tryPart_27 (w0 : Int32) (s : zS) : Option (Int32 × zS) :=
  some (w0, s)
set_option maxRecDepth 20000 in
theorem b_X1_tryPart_27 {X : zX} (hX : zx_ok X cX1_tryPart RX1 2) (hT : zx_rt X (some .int) (zR 2 43)) : ∀ (w0 : Int32) (s : zS), zV X (zq X zrI) 2 27 [] [.int w0] s (f_X1_tryPart_27 w0 s) := by
  intro w0 s
  unfold f_X1_tryPart_27
  exact zv_ireti hX hT dX1_tryPart_27
def f_X1_tryPart (v1 : Int32) (s : zS) : Option (Int32 × zS) :=
  zbd (f_X5_has_3 v1 s) fun r1 s2 =>
  if ¬ r1 = 0 then
  (zbd (f_X1_leave v1 s2) fun r3 s4 =>
  if ¬ r3 = (1 : Int32) then
  (f_X1_tryPart_27 (nI 2) s4)
  else
  f_X1_tryPart_27 (0 : Int32) s4)
  else
  some ((1 : Int32), s2)
set_option maxRecDepth 20000 in
theorem c_X1_tryPart (Y : zG) (v1 : Int32) (s : zS) : zM Y yX1_tryPart cX1_tryPart 2 (some .int) (zR 2 43) [.ref (zy_a Y 72), .int v1] s zrI (f_X1_tryPart v1 s) := by
  refine zm_start (by decide +kernel) (Nat.le_of_ble_eq_true rfl) ?_
  intro X hY hT hX
  subst hY
  have hX : zx_ok X cX1_tryPart RX1 2 := hX
  show zV X (zq X zrI) 2 0 [(0, .ref (zx_ad X 72)), (1, .int v1)] [] s _
  unfold f_X1_tryPart
  refine zv_aload_n hX dX1_tryPart_0 0 rfl ?_
  refine zv_geta hX wf_X1_9 wc_1 zd_72 zj_72_0 c9_1 zr_72_0 (by decide) dX1_tryPart_1 ?_
  refine zv_iload_n hX dX1_tryPart_4 1 rfl ?_
  refine zv_cVI [.int v1] (rest := []) hX hT.2.2.2.2 (c_X5_has_3 (zx_Y X) v1 s) wv_X5_has c9_5 zd_3 wm_X1_50 rfl (Nat.le_of_ble_eq_true rfl) (Nat.le_of_ble_eq_true rfl) rfl (Nat.le_of_ble_eq_true rfl) dX1_tryPart_5 (fun r1 s2 => ?_)
  refine zv_if_ne (tgt := 13) hX dX1_tryPart_8 rfl ?_ ?_
  · refine zv_aload_n hX dX1_tryPart_13 0 rfl ?_
    refine zv_iload_n hX dX1_tryPart_14 1 rfl ?_
    refine zv_cVI [.int v1] (rest := []) hX hT.2.2.2.2 (c_X1_leave (zx_Y X) v1 s2) wv_X1_leave c9_1 zd_72 wm_X1_46 rfl (Nat.le_of_ble_eq_true rfl) (Nat.le_of_ble_eq_true rfl) rfl (Nat.le_of_ble_eq_true rfl) dX1_tryPart_15 (fun r3 s4 => ?_)
    refine zv_iconst (v := (1 : Int32)) hX dX1_tryPart_18 zi_i_1 ?_
    refine zv_icmp_ne (tgt := 26) hX dX1_tryPart_19 rfl ?_ ?_
    · refine zv_iconst (v := (nI 2)) hX dX1_tryPart_26 zi_i_2 ?_
      exact zv_sub [] rfl (b_X1_tryPart_27 hX hT (nI 2) s4)
    · refine zv_iconst (v := (0 : Int32)) hX dX1_tryPart_22 zi_i_0 ?_
      refine zv_goto (tgt := 27) hX dX1_tryPart_23 rfl ?_
      exact zv_sub [] rfl (b_X1_tryPart_27 hX hT (0 : Int32) s4)
  · refine zv_iconst (v := (1 : Int32)) hX dX1_tryPart_11 zi_i_1 ?_
    exact zv_ireti hX hT dX1_tryPart_12
theorem dX5_setSign_0 : decode cX5_setSign 0 = .ok (.aload_n 0, 1) := by decide +kernel
theorem dX5_setSign_1 : decode cX5_setSign 1 = .ok (.getfield 9, 3) := by decide +kernel
theorem dX5_setSign_4 : decode cX5_setSign 4 = .ok (.iload_n 1, 1) := by decide +kernel
theorem dX5_setSign_5 : decode cX5_setSign 5 = .ok (.iaload, 1) := by decide +kernel
theorem dX5_setSign_6 : decode cX5_setSign 6 = .ok (.iload_n 2, 1) := by decide +kernel
theorem dX5_setSign_7 : decode cX5_setSign 7 = .ok (.if_icmp .eq 20, 3) := by decide +kernel
theorem dX5_setSign_10 : decode cX5_setSign 10 = .ok (.aload_n 0, 1) := by decide +kernel
theorem dX5_setSign_11 : decode cX5_setSign 11 = .ok (.getfield 9, 3) := by decide +kernel
theorem dX5_setSign_14 : decode cX5_setSign 14 = .ok (.iload_n 1, 1) := by decide +kernel
theorem dX5_setSign_15 : decode cX5_setSign 15 = .ok (.iload_n 2, 1) := by decide +kernel
theorem dX5_setSign_16 : decode cX5_setSign 16 = .ok (.iastore, 1) := by decide +kernel
theorem dX5_setSign_17 : decode cX5_setSign 17 = .ok (.aload_n 0, 1) := by decide +kernel
theorem dX5_setSign_18 : decode cX5_setSign 18 = .ok (.getfield 30, 3) := by decide +kernel
theorem dX5_setSign_21 : decode cX5_setSign 21 = .ok (.iload_n 1, 1) := by decide +kernel
theorem dX5_setSign_22 : decode cX5_setSign 22 = .ok (.dup2, 1) := by decide +kernel
theorem dX5_setSign_23 : decode cX5_setSign 23 = .ok (.iaload, 1) := by decide +kernel
theorem dX5_setSign_24 : decode cX5_setSign 24 = .ok (.iconst 1, 1) := by decide +kernel
theorem dX5_setSign_25 : decode cX5_setSign 25 = .ok (.iadd, 1) := by decide +kernel
theorem dX5_setSign_26 : decode cX5_setSign 26 = .ok (.iastore, 1) := by decide +kernel
theorem dX5_setSign_27 : decode cX5_setSign 27 = .ok (.return_, 1) := by decide +kernel
def f_X5_setSign_3_27  (s : zS) : Option (Unit × zS) :=
  some ((), s)
set_option maxRecDepth 20000 in
theorem b_X5_setSign_3_27 {X : zX} (hX : zx_ok X cX5_setSign RX5 3) (hT : zx_rt X none (zR 0 0)) : ∀  (s : zS), zV X (zq X zrV) 3 27 [] [] s (f_X5_setSign_3_27  s) := by
  intro  s
  unfold f_X5_setSign_3_27
  exact zv_vret hX hT dX5_setSign_27
def f_X5_setSign_3 (v1 : Int32) (v2 : Int32) (s : zS) : Option (Unit × zS) :=
  (zr_i s 4 v1).bind fun x1 =>
  if x1 = v2 then
  (f_X5_setSign_3_27 s)
  else
  (zw_i s 4 v1 v2).bind fun s2 =>
  (zr_i s2 10 v1).bind fun x3 =>
  (zw_i s2 10 v1 (x3 + (1 : Int32))).bind fun s4 =>
  f_X5_setSign_3_27 s4
set_option maxRecDepth 20000 in
theorem c_X5_setSign_3 (Y : zG) (v1 : Int32) (v2 : Int32) (s : zS) : zM Y yX5_setSign cX5_setSign 3 none (zR 0 0) [.ref (zy_a Y 3), .int v1, .int v2] s zrV (f_X5_setSign_3 v1 v2 s) := by
  refine zm_start (by decide +kernel) (Nat.le_of_ble_eq_true rfl) ?_
  intro X hY hT hX
  subst hY
  have hX : zx_ok X cX5_setSign RX5 3 := hX
  show zV X (zq X zrV) 3 0 [(0, .ref (zx_ad X 3)), (1, .int v1), (2, .int v2)] [] s _
  unfold f_X5_setSign_3
  refine zv_aload_n hX dX5_setSign_0 0 rfl ?_
  refine zv_geta hX wf_X5_9 wc_5 zd_3 zj_3_2 c9_5 zr_3_2 (by decide) dX5_setSign_1 ?_
  refine zv_iload_n hX dX5_setSign_4 1 rfl ?_
  refine zv_iald hX dX5_setSign_5 (fun x1 => ?_)
  refine zv_iload_n hX dX5_setSign_6 2 rfl ?_
  refine zv_icmp_eq (tgt := 27) hX dX5_setSign_7 rfl ?_ ?_
  · exact zv_sub [] rfl (b_X5_setSign_3_27 hX hT  s)
  · refine zv_aload_n hX dX5_setSign_10 0 rfl ?_
    refine zv_geta hX wf_X5_9 wc_5 zd_3 zj_3_2 c9_5 zr_3_2 (by decide) dX5_setSign_11 ?_
    refine zv_iload_n hX dX5_setSign_14 1 rfl ?_
    refine zv_iload_n hX dX5_setSign_15 2 rfl ?_
    refine zv_iast hX dX5_setSign_16 (fun s2 => ?_)
    refine zv_aload_n hX dX5_setSign_17 0 rfl ?_
    refine zv_geta hX wf_X5_30 wc_5 zd_3 zj_3_13 c9_5 zr_3_13 (by decide) dX5_setSign_18 ?_
    refine zv_iload_n hX dX5_setSign_21 1 rfl ?_
    refine zv_dup2 hX dX5_setSign_22 rfl rfl ?_
    refine zv_iald hX dX5_setSign_23 (fun x3 => ?_)
    refine zv_iconst (v := (1 : Int32)) hX dX5_setSign_24 zi_i_1 ?_
    refine zv_iadd hX dX5_setSign_25 ?_
    refine zv_iast hX dX5_setSign_26 (fun s4 => ?_)
    exact zv_sub [] rfl (b_X5_setSign_3_27 hX hT  s4)
theorem dX1_tryStroke_0 : decode cX1_tryStroke 0 = .ok (.aload_n 0, 1) := by decide +kernel
theorem dX1_tryStroke_1 : decode cX1_tryStroke 1 = .ok (.getfield 9, 3) := by decide +kernel
theorem dX1_tryStroke_4 : decode cX1_tryStroke 4 = .ok (.iload_n 1, 1) := by decide +kernel
theorem dX1_tryStroke_5 : decode cX1_tryStroke 5 = .ok (.invokevirtual 50, 3) := by decide +kernel
theorem dX1_tryStroke_8 : decode cX1_tryStroke 8 = .ok (.ifCond .eq 13, 3) := by decide +kernel
theorem dX1_tryStroke_11 : decode cX1_tryStroke 11 = .ok (.iload_n 2, 1) := by decide +kernel
theorem dX1_tryStroke_12 : decode cX1_tryStroke 12 = .ok (.ifCond .lt 9, 3) := by decide +kernel
theorem dX1_tryStroke_15 : decode cX1_tryStroke 15 = .ok (.iload_n 2, 1) := by decide +kernel
theorem dX1_tryStroke_16 : decode cX1_tryStroke 16 = .ok (.bipush 9, 2) := by decide +kernel
theorem dX1_tryStroke_18 : decode cX1_tryStroke 18 = .ok (.if_icmp .lt 5, 3) := by decide +kernel
theorem dX1_tryStroke_21 : decode cX1_tryStroke 21 = .ok (.iconst 1, 1) := by decide +kernel
theorem dX1_tryStroke_22 : decode cX1_tryStroke 22 = .ok (.ireturn, 1) := by decide +kernel
theorem dX1_tryStroke_23 : decode cX1_tryStroke 23 = .ok (.aload_n 0, 1) := by decide +kernel
theorem dX1_tryStroke_24 : decode cX1_tryStroke 24 = .ok (.getfield 9, 3) := by decide +kernel
theorem dX1_tryStroke_27 : decode cX1_tryStroke 27 = .ok (.iload_n 1, 1) := by decide +kernel
theorem dX1_tryStroke_28 : decode cX1_tryStroke 28 = .ok (.aload_n 0, 1) := by decide +kernel
theorem dX1_tryStroke_29 : decode cX1_tryStroke 29 = .ok (.getfield 9, 3) := by decide +kernel
theorem dX1_tryStroke_32 : decode cX1_tryStroke 32 = .ok (.getfield 54, 3) := by decide +kernel
theorem dX1_tryStroke_35 : decode cX1_tryStroke 35 = .ok (.iload_n 1, 1) := by decide +kernel
theorem dX1_tryStroke_36 : decode cX1_tryStroke 36 = .ok (.iaload, 1) := by decide +kernel
theorem dX1_tryStroke_37 : decode cX1_tryStroke 37 = .ok (.iconst 1, 1) := by decide +kernel
theorem dX1_tryStroke_38 : decode cX1_tryStroke 38 = .ok (.iload_n 2, 1) := by decide +kernel
theorem dX1_tryStroke_39 : decode cX1_tryStroke 39 = .ok (.ishl, 1) := by decide +kernel
theorem dX1_tryStroke_40 : decode cX1_tryStroke 40 = .ok (.ixor, 1) := by decide +kernel
theorem dX1_tryStroke_41 : decode cX1_tryStroke 41 = .ok (.invokevirtual 57, 3) := by decide +kernel
theorem dX1_tryStroke_44 : decode cX1_tryStroke 44 = .ok (.iconst 0, 1) := by decide +kernel
theorem dX1_tryStroke_45 : decode cX1_tryStroke 45 = .ok (.ireturn, 1) := by decide +kernel
def f_X1_tryStroke_21  (s : zS) : Option (Int32 × zS) :=
  some ((1 : Int32), s)
set_option maxRecDepth 20000 in
theorem b_X1_tryStroke_21 {X : zX} (hX : zx_ok X cX1_tryStroke RX1 3) (hT : zx_rt X (some .int) (zR 1 22)) : ∀  (s : zS), zV X (zq X zrI) 3 21 [] [] s (f_X1_tryStroke_21  s) := by
  intro  s
  unfold f_X1_tryStroke_21
  refine zv_iconst (v := (1 : Int32)) hX dX1_tryStroke_21 zi_i_1 ?_
  exact zv_ireti hX hT dX1_tryStroke_22
def f_X1_tryStroke (v1 : Int32) (v2 : Int32) (s : zS) : Option (Int32 × zS) :=
  zbd (f_X5_has_3 v1 s) fun r1 s2 =>
  if r1 = 0 then
  (f_X1_tryStroke_21 s2)
  else
  if v2 < 0 then
  (f_X1_tryStroke_21 s2)
  else
  if v2 < (nI 9) then
  ((zr_i s2 4 v1).bind fun x3 =>
  zbd (f_X5_setSign_3 v1 (x3 ^^^ (zo_shl (1 : Int32) v2)) s2) fun _ s4 =>
  some ((0 : Int32), s4))
  else
  f_X1_tryStroke_21 s2
set_option maxRecDepth 20000 in
theorem c_X1_tryStroke (Y : zG) (v1 : Int32) (v2 : Int32) (s : zS) : zM Y yX1_tryStroke cX1_tryStroke 3 (some .int) (zR 1 22) [.ref (zy_a Y 72), .int v1, .int v2] s zrI (f_X1_tryStroke v1 v2 s) := by
  refine zm_start (by decide +kernel) (Nat.le_of_ble_eq_true rfl) ?_
  intro X hY hT hX
  subst hY
  have hX : zx_ok X cX1_tryStroke RX1 3 := hX
  show zV X (zq X zrI) 3 0 [(0, .ref (zx_ad X 72)), (1, .int v1), (2, .int v2)] [] s _
  unfold f_X1_tryStroke
  refine zv_aload_n hX dX1_tryStroke_0 0 rfl ?_
  refine zv_geta hX wf_X1_9 wc_1 zd_72 zj_72_0 c9_1 zr_72_0 (by decide) dX1_tryStroke_1 ?_
  refine zv_iload_n hX dX1_tryStroke_4 1 rfl ?_
  refine zv_cVI [.int v1] (rest := []) hX hT.2.2.2.2 (c_X5_has_3 (zx_Y X) v1 s) wv_X5_has c9_5 zd_3 wm_X1_50 rfl (Nat.le_of_ble_eq_true rfl) (Nat.le_of_ble_eq_true rfl) rfl (Nat.le_of_ble_eq_true rfl) dX1_tryStroke_5 (fun r1 s2 => ?_)
  refine zv_if_eq (tgt := 21) hX dX1_tryStroke_8 rfl ?_ ?_
  · exact zv_sub [] rfl (b_X1_tryStroke_21 hX hT  s2)
  · refine zv_iload_n hX dX1_tryStroke_11 2 rfl ?_
    refine zv_if_lt (tgt := 21) hX dX1_tryStroke_12 rfl ?_ ?_
    · exact zv_sub [] rfl (b_X1_tryStroke_21 hX hT  s2)
    · refine zv_iload_n hX dX1_tryStroke_15 2 rfl ?_
      refine zv_bipush (v := (nI 9)) hX dX1_tryStroke_16 zi_b_9 ?_
      refine zv_icmp_lt (tgt := 23) hX dX1_tryStroke_18 rfl ?_ ?_
      · refine zv_aload_n hX dX1_tryStroke_23 0 rfl ?_
        refine zv_geta hX wf_X1_9 wc_1 zd_72 zj_72_0 c9_1 zr_72_0 (by decide) dX1_tryStroke_24 ?_
        refine zv_iload_n hX dX1_tryStroke_27 1 rfl ?_
        refine zv_aload_n hX dX1_tryStroke_28 0 rfl ?_
        refine zv_geta hX wf_X1_9 wc_1 zd_72 zj_72_0 c9_1 zr_72_0 (by decide) dX1_tryStroke_29 ?_
        refine zv_geta hX wf_X1_54 wc_5 zd_3 zj_3_2 c9_5 zr_3_2 (by decide) dX1_tryStroke_32 ?_
        refine zv_iload_n hX dX1_tryStroke_35 1 rfl ?_
        refine zv_iald hX dX1_tryStroke_36 (fun x3 => ?_)
        refine zv_iconst (v := (1 : Int32)) hX dX1_tryStroke_37 zi_i_1 ?_
        refine zv_iload_n hX dX1_tryStroke_38 2 rfl ?_
        refine zv_ishl hX dX1_tryStroke_39 ?_
        refine zv_ixor hX dX1_tryStroke_40 ?_
        refine zv_cVV [.int v1, .int (x3 ^^^ (zo_shl (1 : Int32) v2))] (rest := []) hX hT.2.2.2.2 (c_X5_setSign_3 (zx_Y X) v1 (x3 ^^^ (zo_shl (1 : Int32) v2)) s2) wv_X5_setSign c9_5 zd_3 wm_X1_57 rfl (Nat.le_of_ble_eq_true rfl) (Nat.le_of_ble_eq_true rfl) rfl (Nat.le_of_ble_eq_true rfl) dX1_tryStroke_41 (fun _ s4 => ?_)
        refine zv_iconst (v := (0 : Int32)) hX dX1_tryStroke_44 zi_i_0 ?_
        exact zv_ireti hX hT dX1_tryStroke_45
      · exact zv_sub [] rfl (b_X1_tryStroke_21 hX hT  s2)
theorem dX1_tryDeed_0 : decode cX1_tryDeed 0 = .ok (.iload_n 1, 1) := by decide +kernel
theorem dX1_tryDeed_1 : decode cX1_tryDeed 1 = .ok (.tableswitch 58 0 3 #[31, 38, 44, 51], 31) := by decide +kernel
theorem dX1_tryDeed_32 : decode cX1_tryDeed 32 = .ok (.aload_n 0, 1) := by decide +kernel
theorem dX1_tryDeed_33 : decode cX1_tryDeed 33 = .ok (.iload_n 2, 1) := by decide +kernel
theorem dX1_tryDeed_34 : decode cX1_tryDeed 34 = .ok (.iload_n 3, 1) := by decide +kernel
theorem dX1_tryDeed_35 : decode cX1_tryDeed 35 = .ok (.invokevirtual 86, 3) := by decide +kernel
theorem dX1_tryDeed_38 : decode cX1_tryDeed 38 = .ok (.ireturn, 1) := by decide +kernel
theorem dX1_tryDeed_39 : decode cX1_tryDeed 39 = .ok (.aload_n 0, 1) := by decide +kernel
theorem dX1_tryDeed_40 : decode cX1_tryDeed 40 = .ok (.iload_n 3, 1) := by decide +kernel
theorem dX1_tryDeed_41 : decode cX1_tryDeed 41 = .ok (.invokevirtual 90, 3) := by decide +kernel
theorem dX1_tryDeed_44 : decode cX1_tryDeed 44 = .ok (.ireturn, 1) := by decide +kernel
theorem dX1_tryDeed_45 : decode cX1_tryDeed 45 = .ok (.aload_n 0, 1) := by decide +kernel
theorem dX1_tryDeed_46 : decode cX1_tryDeed 46 = .ok (.iload_n 2, 1) := by decide +kernel
theorem dX1_tryDeed_47 : decode cX1_tryDeed 47 = .ok (.iload_n 3, 1) := by decide +kernel
theorem dX1_tryDeed_48 : decode cX1_tryDeed 48 = .ok (.invokevirtual 93, 3) := by decide +kernel
theorem dX1_tryDeed_51 : decode cX1_tryDeed 51 = .ok (.ireturn, 1) := by decide +kernel
theorem dX1_tryDeed_52 : decode cX1_tryDeed 52 = .ok (.aload_n 0, 1) := by decide +kernel
theorem dX1_tryDeed_53 : decode cX1_tryDeed 53 = .ok (.iload_n 2, 1) := by decide +kernel
theorem dX1_tryDeed_54 : decode cX1_tryDeed 54 = .ok (.iload_n 3, 1) := by decide +kernel
theorem dX1_tryDeed_55 : decode cX1_tryDeed 55 = .ok (.invokevirtual 96, 3) := by decide +kernel
theorem dX1_tryDeed_58 : decode cX1_tryDeed 58 = .ok (.ireturn, 1) := by decide +kernel
theorem dX1_tryDeed_59 : decode cX1_tryDeed 59 = .ok (.iconst 1, 1) := by decide +kernel
theorem dX1_tryDeed_60 : decode cX1_tryDeed 60 = .ok (.ireturn, 1) := by decide +kernel
def f_X1_tryDeed (v1 : Int32) (v2 : Int32) (v3 : Int32) (s : zS) : Option (Int32 × zS) :=
  if v1 = (0 : Int32) then
  (zbd (f_X1_tryEngage v2 v3 s) fun r1 s2 =>
  some (r1, s2))
  else if v1 = (1 : Int32) then
  (zbd (f_X1_tryPart v3 s) fun r3 s4 =>
  some (r3, s4))
  else if v1 = (nI 2) then
  (zbd (f_X1_tryStroke v2 v3 s) fun r5 s6 =>
  some (r5, s6))
  else if v1 = (nI 3) then
  (zbd (f_X1_tryMark v2 v3 s) fun r7 s8 =>
  some (r7, s8))
  else 
  some ((1 : Int32), s)
set_option maxRecDepth 20000 in
theorem c_X1_tryDeed (Y : zG) (v1 : Int32) (v2 : Int32) (v3 : Int32) (s : zS) : zM Y yX1_tryDeed cX1_tryDeed 4 (some .int) (zR 5 122) [.ref (zy_a Y 72), .int v1, .int v2, .int v3] s zrI (f_X1_tryDeed v1 v2 v3 s) := by
  refine zm_start (by decide +kernel) (Nat.le_of_ble_eq_true rfl) ?_
  intro X hY hT hX
  subst hY
  have hX : zx_ok X cX1_tryDeed RX1 4 := hX
  show zV X (zq X zrI) 4 0 [(0, .ref (zx_ad X 72)), (1, .int v1), (2, .int v2), (3, .int v3)] [] s _
  unfold f_X1_tryDeed
  refine zv_iload_n hX dX1_tryDeed_0 1 rfl ?_
  refine zv_ite (fun h1_0 => ?_) (fun h1_0 => ?_)
  · refine zv_tabI (tgt := 32) hX dX1_tryDeed_1 (0 : Int32) h1_0 (by decide) (by decide) rfl rfl ?_
    refine zv_aload_n hX dX1_tryDeed_32 0 rfl ?_
    refine zv_iload_n hX dX1_tryDeed_33 2 rfl ?_
    refine zv_iload_n hX dX1_tryDeed_34 3 rfl ?_
    refine zv_cVI [.int v2, .int v3] (rest := []) hX hT.2.2.2.2 (c_X1_tryEngage (zx_Y X) v2 v3 s) wv_X1_tryEngage c9_1 zd_72 wm_X1_86 rfl (Nat.le_of_ble_eq_true rfl) (Nat.le_of_ble_eq_true rfl) rfl (Nat.le_of_ble_eq_true rfl) dX1_tryDeed_35 (fun r1 s2 => ?_)
    exact zv_ireti hX hT dX1_tryDeed_38
  refine zv_ite (fun h1_1 => ?_) (fun h1_1 => ?_)
  · refine zv_tabI (tgt := 39) hX dX1_tryDeed_1 (1 : Int32) h1_1 (by decide) (by decide) rfl rfl ?_
    refine zv_aload_n hX dX1_tryDeed_39 0 rfl ?_
    refine zv_iload_n hX dX1_tryDeed_40 3 rfl ?_
    refine zv_cVI [.int v3] (rest := []) hX hT.2.2.2.2 (c_X1_tryPart (zx_Y X) v3 s) wv_X1_tryPart c9_1 zd_72 wm_X1_90 rfl (Nat.le_of_ble_eq_true rfl) (Nat.le_of_ble_eq_true rfl) rfl (Nat.le_of_ble_eq_true rfl) dX1_tryDeed_41 (fun r3 s4 => ?_)
    exact zv_ireti hX hT dX1_tryDeed_44
  refine zv_ite (fun h1_2 => ?_) (fun h1_2 => ?_)
  · refine zv_tabI (tgt := 45) hX dX1_tryDeed_1 (nI 2) h1_2 (by decide) (by decide) rfl rfl ?_
    refine zv_aload_n hX dX1_tryDeed_45 0 rfl ?_
    refine zv_iload_n hX dX1_tryDeed_46 2 rfl ?_
    refine zv_iload_n hX dX1_tryDeed_47 3 rfl ?_
    refine zv_cVI [.int v2, .int v3] (rest := []) hX hT.2.2.2.2 (c_X1_tryStroke (zx_Y X) v2 v3 s) wv_X1_tryStroke c9_1 zd_72 wm_X1_93 rfl (Nat.le_of_ble_eq_true rfl) (Nat.le_of_ble_eq_true rfl) rfl (Nat.le_of_ble_eq_true rfl) dX1_tryDeed_48 (fun r5 s6 => ?_)
    exact zv_ireti hX hT dX1_tryDeed_51
  refine zv_ite (fun h1_3 => ?_) (fun h1_3 => ?_)
  · refine zv_tabI (tgt := 52) hX dX1_tryDeed_1 (nI 3) h1_3 (by decide) (by decide) rfl rfl ?_
    refine zv_aload_n hX dX1_tryDeed_52 0 rfl ?_
    refine zv_iload_n hX dX1_tryDeed_53 2 rfl ?_
    refine zv_iload_n hX dX1_tryDeed_54 3 rfl ?_
    refine zv_cVI [.int v2, .int v3] (rest := []) hX hT.2.2.2.2 (c_X1_tryMark (zx_Y X) v2 v3 s) wv_X1_tryMark c9_1 zd_72 wm_X1_96 rfl (Nat.le_of_ble_eq_true rfl) (Nat.le_of_ble_eq_true rfl) rfl (Nat.le_of_ble_eq_true rfl) dX1_tryDeed_55 (fun r7 s8 => ?_)
    exact zv_ireti hX hT dX1_tryDeed_58
  refine zv_tabO (tgt := 59) hX dX1_tryDeed_1 (zt_out 0 4 (by decide) (fun j hj => by match j, hj with | 0, _ => exact h1_0 | 1, _ => exact h1_1 | 2, _ => exact h1_2 | 3, _ => exact h1_3)) rfl ?_
  refine zv_iconst (v := (1 : Int32)) hX dX1_tryDeed_59 zi_i_1 ?_
  exact zv_ireti hX hT dX1_tryDeed_60
theorem dX6_isOne_0 : decode cX6_isOne 0 = .ok (.iload_n 1, 1) := by decide +kernel
theorem dX6_isOne_1 : decode cX6_isOne 1 = .ok (.ifCond .lt 12, 3) := by decide +kernel
theorem dX6_isOne_4 : decode cX6_isOne 4 = .ok (.iload_n 1, 1) := by decide +kernel
theorem dX6_isOne_5 : decode cX6_isOne 5 = .ok (.iconst 4, 1) := by decide +kernel
theorem dX6_isOne_6 : decode cX6_isOne 6 = .ok (.if_icmp .ge 7, 3) := by decide +kernel
theorem dX6_isOne_9 : decode cX6_isOne 9 = .ok (.iconst 1, 1) := by decide +kernel
theorem dX6_isOne_10 : decode cX6_isOne 10 = .ok (.goto 4, 3) := by decide +kernel
theorem dX6_isOne_13 : decode cX6_isOne 13 = .ok (.iconst 0, 1) := by decide +kernel
theorem dX6_isOne_14 : decode cX6_isOne 14 = .ok (.ireturn, 1) := by decide +kernel
def f_X6_isOne_14 (w0 : Int32) (s : zS) : Option (Int32 × zS) :=
  if w0 = 0 ∨ w0 = 1 then some (w0, s) else none
set_option maxRecDepth 20000 in
theorem b_X6_isOne_14 {X : zX} (hX : zx_ok X cX6_isOne RX6 2) (hT : zx_rt X (some .boolean) (zR 0 0)) : ∀ (w0 : Int32) (s : zS), zV X (zq X zrI) 2 14 [] [.int w0] s (f_X6_isOne_14 w0 s) := by
  intro w0 s
  unfold f_X6_isOne_14
  exact zv_iretzB hX hT dX6_isOne_14
def f_X6_isOne_13  (s : zS) : Option (Int32 × zS) :=
  f_X6_isOne_14 (0 : Int32) s
set_option maxRecDepth 20000 in
theorem b_X6_isOne_13 {X : zX} (hX : zx_ok X cX6_isOne RX6 2) (hT : zx_rt X (some .boolean) (zR 0 0)) : ∀  (s : zS), zV X (zq X zrI) 2 13 [] [] s (f_X6_isOne_13  s) := by
  intro  s
  unfold f_X6_isOne_13
  refine zv_iconst (v := (0 : Int32)) hX dX6_isOne_13 zi_i_0 ?_
  exact b_X6_isOne_14 hX hT (0 : Int32) s
def f_X6_isOne (v1 : Int32) (s : zS) : Option (Int32 × zS) :=
  if v1 < 0 then
  (f_X6_isOne_13 s)
  else
  if (nI 4) ≤ v1 then
  (f_X6_isOne_13 s)
  else
  f_X6_isOne_14 (1 : Int32) s
set_option maxRecDepth 20000 in
theorem c_X6_isOne (Y : zG) (v1 : Int32) (s : zS) : zM Y yX6_isOne cX6_isOne 2 (some .boolean) (zR 0 0) [.ref (zy_a Y 68), .int v1] s zrI (f_X6_isOne v1 s) := by
  refine zm_start (by decide +kernel) (Nat.le_of_ble_eq_true rfl) ?_
  intro X hY hT hX
  subst hY
  have hX : zx_ok X cX6_isOne RX6 2 := hX
  show zV X (zq X zrI) 2 0 [(0, .ref (zx_ad X 68)), (1, .int v1)] [] s _
  unfold f_X6_isOne
  refine zv_iload_n hX dX6_isOne_0 1 rfl ?_
  refine zv_if_lt (tgt := 13) hX dX6_isOne_1 rfl ?_ ?_
  · exact zv_sub [] rfl (b_X6_isOne_13 hX hT  s)
  · refine zv_iload_n hX dX6_isOne_4 1 rfl ?_
    refine zv_iconst (v := (nI 4)) hX dX6_isOne_5 zi_i_4 ?_
    refine zv_icmp_ge (tgt := 13) hX dX6_isOne_6 rfl ?_ ?_
    · exact zv_sub [] rfl (b_X6_isOne_13 hX hT  s)
    · refine zv_iconst (v := (1 : Int32)) hX dX6_isOne_9 zi_i_1 ?_
      refine zv_goto (tgt := 14) hX dX6_isOne_10 rfl ?_
      exact zv_sub [] rfl (b_X6_isOne_14 hX hT (1 : Int32) s)
theorem dX6_isMissing_0 : decode cX6_isMissing 0 = .ok (.aload_n 0, 1) := by decide +kernel
theorem dX6_isMissing_1 : decode cX6_isMissing 1 = .ok (.iload_n 1, 1) := by decide +kernel
theorem dX6_isMissing_2 : decode cX6_isMissing 2 = .ok (.invokevirtual 22, 3) := by decide +kernel
theorem dX6_isMissing_5 : decode cX6_isMissing 5 = .ok (.ifCond .eq 12, 3) := by decide +kernel
theorem dX6_isMissing_8 : decode cX6_isMissing 8 = .ok (.aload_n 0, 1) := by decide +kernel
theorem dX6_isMissing_9 : decode cX6_isMissing 9 = .ok (.getfield 9, 3) := by decide +kernel
theorem dX6_isMissing_12 : decode cX6_isMissing 12 = .ok (.iload_n 1, 1) := by decide +kernel
theorem dX6_isMissing_13 : decode cX6_isMissing 13 = .ok (.iaload, 1) := by decide +kernel
theorem dX6_isMissing_14 : decode cX6_isMissing 14 = .ok (.ifCond .ge 7, 3) := by decide +kernel
theorem dX6_isMissing_17 : decode cX6_isMissing 17 = .ok (.iconst 1, 1) := by decide +kernel
theorem dX6_isMissing_18 : decode cX6_isMissing 18 = .ok (.goto 4, 3) := by decide +kernel
theorem dX6_isMissing_21 : decode cX6_isMissing 21 = .ok (.iconst 0, 1) := by decide +kernel
theorem dX6_isMissing_22 : decode cX6_isMissing 22 = .ok (.ireturn, 1) := by decide +kernel
def f_X6_isMissing_22 (w0 : Int32) (s : zS) : Option (Int32 × zS) :=
  if w0 = 0 ∨ w0 = 1 then some (w0, s) else none
set_option maxRecDepth 20000 in
theorem b_X6_isMissing_22 {X : zX} (hX : zx_ok X cX6_isMissing RX6 2) (hT : zx_rt X (some .boolean) (zR 1 21)) : ∀ (w0 : Int32) (s : zS), zV X (zq X zrI) 2 22 [] [.int w0] s (f_X6_isMissing_22 w0 s) := by
  intro w0 s
  unfold f_X6_isMissing_22
  exact zv_iretzB hX hT dX6_isMissing_22
def f_X6_isMissing_17  (s : zS) : Option (Int32 × zS) :=
  f_X6_isMissing_22 (1 : Int32) s
set_option maxRecDepth 20000 in
theorem b_X6_isMissing_17 {X : zX} (hX : zx_ok X cX6_isMissing RX6 2) (hT : zx_rt X (some .boolean) (zR 1 21)) : ∀  (s : zS), zV X (zq X zrI) 2 17 [] [] s (f_X6_isMissing_17  s) := by
  intro  s
  unfold f_X6_isMissing_17
  refine zv_iconst (v := (1 : Int32)) hX dX6_isMissing_17 zi_i_1 ?_
  refine zv_goto (tgt := 22) hX dX6_isMissing_18 rfl ?_
  exact b_X6_isMissing_22 hX hT (1 : Int32) s
def f_X6_isMissing (v1 : Int32) (s : zS) : Option (Int32 × zS) :=
  zbd (f_X6_isOne v1 s) fun r1 s2 =>
  if r1 = 0 then
  (f_X6_isMissing_17 s2)
  else
  (zr_i s2 69 v1).bind fun x3 =>
  if 0 ≤ x3 then
  (f_X6_isMissing_22 (0 : Int32) s2)
  else
  f_X6_isMissing_17 s2
set_option maxRecDepth 20000 in
theorem c_X6_isMissing (Y : zG) (v1 : Int32) (s : zS) : zM Y yX6_isMissing cX6_isMissing 2 (some .boolean) (zR 1 21) [.ref (zy_a Y 68), .int v1] s zrI (f_X6_isMissing v1 s) := by
  refine zm_start (by decide +kernel) (Nat.le_of_ble_eq_true rfl) ?_
  intro X hY hT hX
  subst hY
  have hX : zx_ok X cX6_isMissing RX6 2 := hX
  show zV X (zq X zrI) 2 0 [(0, .ref (zx_ad X 68)), (1, .int v1)] [] s _
  unfold f_X6_isMissing
  refine zv_aload_n hX dX6_isMissing_0 0 rfl ?_
  refine zv_iload_n hX dX6_isMissing_1 1 rfl ?_
  refine zv_cVI [.int v1] (rest := []) hX hT.2.2.2.2 (c_X6_isOne (zx_Y X) v1 s) wv_X6_isOne c9_6 zd_68 wm_X6_22 rfl (Nat.le_of_ble_eq_true rfl) (Nat.le_of_ble_eq_true rfl) rfl (Nat.le_of_ble_eq_true rfl) dX6_isMissing_2 (fun r1 s2 => ?_)
  refine zv_if_eq (tgt := 17) hX dX6_isMissing_5 rfl ?_ ?_
  · exact zv_sub [] rfl (b_X6_isMissing_17 hX hT  s2)
  · refine zv_aload_n hX dX6_isMissing_8 0 rfl ?_
    refine zv_geta hX wf_X6_9 wc_6 zd_68 zj_68_0 c9_6 zr_68_0 (by decide) dX6_isMissing_9 ?_
    refine zv_iload_n hX dX6_isMissing_12 1 rfl ?_
    refine zv_iald hX dX6_isMissing_13 (fun x3 => ?_)
    refine zv_if_ge (tgt := 21) hX dX6_isMissing_14 rfl ?_ ?_
    · refine zv_iconst (v := (0 : Int32)) hX dX6_isMissing_21 zi_i_0 ?_
      exact zv_sub [] rfl (b_X6_isMissing_22 hX hT (0 : Int32) s2)
    · exact zv_sub [] rfl (b_X6_isMissing_17 hX hT  s2)
theorem dX6_sizeOf_0 : decode cX6_sizeOf 0 = .ok (.aload_n 0, 1) := by decide +kernel
theorem dX6_sizeOf_1 : decode cX6_sizeOf 1 = .ok (.iload_n 1, 1) := by decide +kernel
theorem dX6_sizeOf_2 : decode cX6_sizeOf 2 = .ok (.invokevirtual 26, 3) := by decide +kernel
theorem dX6_sizeOf_5 : decode cX6_sizeOf 5 = .ok (.ifCond .eq 7, 3) := by decide +kernel
theorem dX6_sizeOf_8 : decode cX6_sizeOf 8 = .ok (.iconst 0, 1) := by decide +kernel
theorem dX6_sizeOf_9 : decode cX6_sizeOf 9 = .ok (.goto 9, 3) := by decide +kernel
theorem dX6_sizeOf_12 : decode cX6_sizeOf 12 = .ok (.aload_n 0, 1) := by decide +kernel
theorem dX6_sizeOf_13 : decode cX6_sizeOf 13 = .ok (.getfield 15, 3) := by decide +kernel
theorem dX6_sizeOf_16 : decode cX6_sizeOf 16 = .ok (.iload_n 1, 1) := by decide +kernel
theorem dX6_sizeOf_17 : decode cX6_sizeOf 17 = .ok (.iaload, 1) := by decide +kernel
theorem dX6_sizeOf_18 : decode cX6_sizeOf 18 = .ok (.ireturn, 1) := by decide +kernel
def f_X6_sizeOf_18 (w0 : Int32) (s : zS) : Option (Int32 × zS) :=
  some (w0, s)
set_option maxRecDepth 20000 in
theorem b_X6_sizeOf_18 {X : zX} (hX : zx_ok X cX6_sizeOf RX6 2) (hT : zx_rt X (some .int) (zR 2 42)) : ∀ (w0 : Int32) (s : zS), zV X (zq X zrI) 2 18 [] [.int w0] s (f_X6_sizeOf_18 w0 s) := by
  intro w0 s
  unfold f_X6_sizeOf_18
  exact zv_ireti hX hT dX6_sizeOf_18
def f_X6_sizeOf (v1 : Int32) (s : zS) : Option (Int32 × zS) :=
  zbd (f_X6_isMissing v1 s) fun r1 s2 =>
  if r1 = 0 then
  ((zr_i s2 70 v1).bind fun x3 =>
  f_X6_sizeOf_18 x3 s2)
  else
  f_X6_sizeOf_18 (0 : Int32) s2
set_option maxRecDepth 20000 in
theorem c_X6_sizeOf (Y : zG) (v1 : Int32) (s : zS) : zM Y yX6_sizeOf cX6_sizeOf 2 (some .int) (zR 2 42) [.ref (zy_a Y 68), .int v1] s zrI (f_X6_sizeOf v1 s) := by
  refine zm_start (by decide +kernel) (Nat.le_of_ble_eq_true rfl) ?_
  intro X hY hT hX
  subst hY
  have hX : zx_ok X cX6_sizeOf RX6 2 := hX
  show zV X (zq X zrI) 2 0 [(0, .ref (zx_ad X 68)), (1, .int v1)] [] s _
  unfold f_X6_sizeOf
  refine zv_aload_n hX dX6_sizeOf_0 0 rfl ?_
  refine zv_iload_n hX dX6_sizeOf_1 1 rfl ?_
  refine zv_cVI [.int v1] (rest := []) hX hT.2.2.2.2 (c_X6_isMissing (zx_Y X) v1 s) wv_X6_isMissing c9_6 zd_68 wm_X6_26 rfl (Nat.le_of_ble_eq_true rfl) (Nat.le_of_ble_eq_true rfl) rfl (Nat.le_of_ble_eq_true rfl) dX6_sizeOf_2 (fun r1 s2 => ?_)
  refine zv_if_eq (tgt := 12) hX dX6_sizeOf_5 rfl ?_ ?_
  · refine zv_aload_n hX dX6_sizeOf_12 0 rfl ?_
    refine zv_geta hX wf_X6_15 wc_6 zd_68 zj_68_1 c9_6 zr_68_1 (by decide) dX6_sizeOf_13 ?_
    refine zv_iload_n hX dX6_sizeOf_16 1 rfl ?_
    refine zv_iald hX dX6_sizeOf_17 (fun x3 => ?_)
    exact zv_sub [] rfl (b_X6_sizeOf_18 hX hT x3 s2)
  · refine zv_iconst (v := (0 : Int32)) hX dX6_sizeOf_8 zi_i_0 ?_
    refine zv_goto (tgt := 18) hX dX6_sizeOf_9 rfl ?_
    exact zv_sub [] rfl (b_X6_sizeOf_18 hX hT (0 : Int32) s2)
theorem dX6_numberAt_0 : decode cX6_numberAt 0 = .ok (.iload_n 2, 1) := by decide +kernel
theorem dX6_numberAt_1 : decode cX6_numberAt 1 = .ok (.ifCond .lt 26, 3) := by decide +kernel
theorem dX6_numberAt_4 : decode cX6_numberAt 4 = .ok (.iload_n 2, 1) := by decide +kernel
theorem dX6_numberAt_5 : decode cX6_numberAt 5 = .ok (.aload_n 0, 1) := by decide +kernel
theorem dX6_numberAt_6 : decode cX6_numberAt 6 = .ok (.iload_n 1, 1) := by decide +kernel
theorem dX6_numberAt_7 : decode cX6_numberAt 7 = .ok (.invokevirtual 29, 3) := by decide +kernel
theorem dX6_numberAt_10 : decode cX6_numberAt 10 = .ok (.if_icmp .ge 17, 3) := by decide +kernel
theorem dX6_numberAt_13 : decode cX6_numberAt 13 = .ok (.aload_n 0, 1) := by decide +kernel
theorem dX6_numberAt_14 : decode cX6_numberAt 14 = .ok (.getfield 18, 3) := by decide +kernel
theorem dX6_numberAt_17 : decode cX6_numberAt 17 = .ok (.iload_n 1, 1) := by decide +kernel
theorem dX6_numberAt_18 : decode cX6_numberAt 18 = .ok (.bipush 40, 2) := by decide +kernel
theorem dX6_numberAt_20 : decode cX6_numberAt 20 = .ok (.imul, 1) := by decide +kernel
theorem dX6_numberAt_21 : decode cX6_numberAt 21 = .ok (.iload_n 2, 1) := by decide +kernel
theorem dX6_numberAt_22 : decode cX6_numberAt 22 = .ok (.iadd, 1) := by decide +kernel
theorem dX6_numberAt_23 : decode cX6_numberAt 23 = .ok (.laload, 1) := by decide +kernel
theorem dX6_numberAt_24 : decode cX6_numberAt 24 = .ok (.goto 4, 3) := by decide +kernel
theorem dX6_numberAt_27 : decode cX6_numberAt 27 = .ok (.lconst 0, 1) := by decide +kernel
theorem dX6_numberAt_28 : decode cX6_numberAt 28 = .ok (.lreturn, 1) := by decide +kernel
def f_X6_numberAt_28 (w0 : Int64) (s : zS) : Option (Int64 × zS) :=
  some (w0, s)
set_option maxRecDepth 20000 in
theorem b_X6_numberAt_28 {X : zX} (hX : zx_ok X cX6_numberAt RX6 3) (hT : zx_rt X (some .long) (zR 3 63)) : ∀ (w0 : Int64) (s : zS), zV X (zq X zrJ) 3 28 [] [.long w0] s (f_X6_numberAt_28 w0 s) := by
  intro w0 s
  unfold f_X6_numberAt_28
  exact zv_lret hX hT dX6_numberAt_28
def f_X6_numberAt_27  (s : zS) : Option (Int64 × zS) :=
  f_X6_numberAt_28 (0 : Int64) s
set_option maxRecDepth 20000 in
theorem b_X6_numberAt_27 {X : zX} (hX : zx_ok X cX6_numberAt RX6 3) (hT : zx_rt X (some .long) (zR 3 63)) : ∀  (s : zS), zV X (zq X zrJ) 3 27 [] [] s (f_X6_numberAt_27  s) := by
  intro  s
  unfold f_X6_numberAt_27
  refine zv_lconst (v := (0 : Int64)) hX dX6_numberAt_27 zi_l_0 ?_
  exact b_X6_numberAt_28 hX hT (0 : Int64) s
def f_X6_numberAt (v1 : Int32) (v2 : Int32) (s : zS) : Option (Int64 × zS) :=
  if v2 < 0 then
  (f_X6_numberAt_27 s)
  else
  zbd (f_X6_sizeOf v1 s) fun r1 s2 =>
  if r1 ≤ v2 then
  (f_X6_numberAt_27 s2)
  else
  (zr_l s2 71 ((v1 * (nI 40)) + v2)).bind fun x3 =>
  f_X6_numberAt_28 x3 s2
set_option maxRecDepth 20000 in
theorem c_X6_numberAt (Y : zG) (v1 : Int32) (v2 : Int32) (s : zS) : zM Y yX6_numberAt cX6_numberAt 3 (some .long) (zR 3 63) [.ref (zy_a Y 68), .int v1, .int v2] s zrJ (f_X6_numberAt v1 v2 s) := by
  refine zm_start (by decide +kernel) (Nat.le_of_ble_eq_true rfl) ?_
  intro X hY hT hX
  subst hY
  have hX : zx_ok X cX6_numberAt RX6 3 := hX
  show zV X (zq X zrJ) 3 0 [(0, .ref (zx_ad X 68)), (1, .int v1), (2, .int v2)] [] s _
  unfold f_X6_numberAt
  refine zv_iload_n hX dX6_numberAt_0 2 rfl ?_
  refine zv_if_lt (tgt := 27) hX dX6_numberAt_1 rfl ?_ ?_
  · exact zv_sub [] rfl (b_X6_numberAt_27 hX hT  s)
  · refine zv_iload_n hX dX6_numberAt_4 2 rfl ?_
    refine zv_aload_n hX dX6_numberAt_5 0 rfl ?_
    refine zv_iload_n hX dX6_numberAt_6 1 rfl ?_
    refine zv_cVI [.int v1] (rest := [.int v2]) hX hT.2.2.2.2 (c_X6_sizeOf (zx_Y X) v1 s) wv_X6_sizeOf c9_6 zd_68 wm_X6_29 rfl (Nat.le_of_ble_eq_true rfl) (Nat.le_of_ble_eq_true rfl) rfl (Nat.le_of_ble_eq_true rfl) dX6_numberAt_7 (fun r1 s2 => ?_)
    refine zv_icmp_ge (tgt := 27) hX dX6_numberAt_10 rfl ?_ ?_
    · exact zv_sub [] rfl (b_X6_numberAt_27 hX hT  s2)
    · refine zv_aload_n hX dX6_numberAt_13 0 rfl ?_
      refine zv_geta hX wf_X6_18 wc_6 zd_68 zj_68_2 c9_6 zr_68_2 (by decide) dX6_numberAt_14 ?_
      refine zv_iload_n hX dX6_numberAt_17 1 rfl ?_
      refine zv_bipush (v := (nI 40)) hX dX6_numberAt_18 zi_b_40 ?_
      refine zv_imul hX dX6_numberAt_20 ?_
      refine zv_iload_n hX dX6_numberAt_21 2 rfl ?_
      refine zv_iadd hX dX6_numberAt_22 ?_
      refine zv_lald hX dX6_numberAt_23 (fun x3 => ?_)
      refine zv_goto (tgt := 28) hX dX6_numberAt_24 rfl ?_
      exact zv_sub [] rfl (b_X6_numberAt_28 hX hT x3 s2)
theorem dX1_doTray_0 : decode cX1_doTray 0 = .ok (.aload_n 0, 1) := by decide +kernel
theorem dX1_doTray_1 : decode cX1_doTray 1 = .ok (.getfield 19, 3) := by decide +kernel
theorem dX1_doTray_4 : decode cX1_doTray 4 = .ok (.iload_n 1, 1) := by decide +kernel
theorem dX1_doTray_5 : decode cX1_doTray 5 = .ok (.invokevirtual 64, 3) := by decide +kernel
theorem dX1_doTray_8 : decode cX1_doTray 8 = .ok (.istore_n 2, 1) := by decide +kernel
theorem dX1_doTray_9 : decode cX1_doTray 9 = .ok (.aload_n 0, 1) := by decide +kernel
theorem dX1_doTray_10 : decode cX1_doTray 10 = .ok (.iconst 0, 1) := by decide +kernel
theorem dX1_doTray_11 : decode cX1_doTray 11 = .ok (.putfield 69, 3) := by decide +kernel
theorem dX1_doTray_14 : decode cX1_doTray 14 = .ok (.iconst 0, 1) := by decide +kernel
theorem dX1_doTray_15 : decode cX1_doTray 15 = .ok (.istore_n 3, 1) := by decide +kernel
theorem dX1_doTray_16 : decode cX1_doTray 16 = .ok (.iload_n 3, 1) := by decide +kernel
theorem dX1_doTray_17 : decode cX1_doTray 17 = .ok (.iload_n 2, 1) := by decide +kernel
theorem dX1_doTray_18 : decode cX1_doTray 18 = .ok (.if_icmp .ge 100, 3) := by decide +kernel
theorem dX1_doTray_21 : decode cX1_doTray 21 = .ok (.aload_n 0, 1) := by decide +kernel
theorem dX1_doTray_22 : decode cX1_doTray 22 = .ok (.getfield 19, 3) := by decide +kernel
theorem dX1_doTray_25 : decode cX1_doTray 25 = .ok (.iload_n 1, 1) := by decide +kernel
theorem dX1_doTray_26 : decode cX1_doTray 26 = .ok (.iload_n 3, 1) := by decide +kernel
theorem dX1_doTray_27 : decode cX1_doTray 27 = .ok (.invokevirtual 72, 3) := by decide +kernel
theorem dX1_doTray_30 : decode cX1_doTray 30 = .ok (.lstore 4, 2) := by decide +kernel
theorem dX1_doTray_32 : decode cX1_doTray 32 = .ok (.lload 4, 2) := by decide +kernel
theorem dX1_doTray_34 : decode cX1_doTray 34 = .ok (.lconst 0, 1) := by decide +kernel
theorem dX1_doTray_35 : decode cX1_doTray 35 = .ok (.lcmp, 1) := by decide +kernel
theorem dX1_doTray_36 : decode cX1_doTray 36 = .ok (.ifCond .lt 30, 3) := by decide +kernel
theorem dX1_doTray_39 : decode cX1_doTray 39 = .ok (.lload 4, 2) := by decide +kernel
theorem dX1_doTray_41 : decode cX1_doTray 41 = .ok (.ldc2_w 76, 3) := by decide +kernel
theorem dX1_doTray_44 : decode cX1_doTray 44 = .ok (.lcmp, 1) := by decide +kernel
theorem dX1_doTray_45 : decode cX1_doTray 45 = .ok (.ifCond .gt 21, 3) := by decide +kernel
theorem dX1_doTray_48 : decode cX1_doTray 48 = .ok (.lload 4, 2) := by decide +kernel
theorem dX1_doTray_50 : decode cX1_doTray 50 = .ok (.ldc2_w 78, 3) := by decide +kernel
theorem dX1_doTray_53 : decode cX1_doTray 53 = .ok (.lcmp, 1) := by decide +kernel
theorem dX1_doTray_54 : decode cX1_doTray 54 = .ok (.ifCond .le 18, 3) := by decide +kernel
theorem dX1_doTray_57 : decode cX1_doTray 57 = .ok (.lload 4, 2) := by decide +kernel
theorem dX1_doTray_59 : decode cX1_doTray 59 = .ok (.ldc2_w 80, 3) := by decide +kernel
theorem dX1_doTray_62 : decode cX1_doTray 62 = .ok (.lcmp, 1) := by decide +kernel
theorem dX1_doTray_63 : decode cX1_doTray 63 = .ok (.ifCond .ge 9, 3) := by decide +kernel
theorem dX1_doTray_66 : decode cX1_doTray 66 = .ok (.sipush 499, 3) := by decide +kernel
theorem dX1_doTray_69 : decode cX1_doTray 69 = .ok (.goto 6, 3) := by decide +kernel
theorem dX1_doTray_72 : decode cX1_doTray 72 = .ok (.lload 4, 2) := by decide +kernel
theorem dX1_doTray_74 : decode cX1_doTray 74 = .ok (.l2i, 1) := by decide +kernel
theorem dX1_doTray_75 : decode cX1_doTray 75 = .ok (.istore 6, 2) := by decide +kernel
theorem dX1_doTray_77 : decode cX1_doTray 77 = .ok (.aload_n 0, 1) := by decide +kernel
theorem dX1_doTray_78 : decode cX1_doTray 78 = .ok (.aload_n 0, 1) := by decide +kernel
theorem dX1_doTray_79 : decode cX1_doTray 79 = .ok (.iload 6, 2) := by decide +kernel
theorem dX1_doTray_81 : decode cX1_doTray 81 = .ok (.bipush 100, 2) := by decide +kernel
theorem dX1_doTray_83 : decode cX1_doTray 83 = .ok (.idiv, 1) := by decide +kernel
theorem dX1_doTray_84 : decode cX1_doTray 84 = .ok (.iload 6, 2) := by decide +kernel
theorem dX1_doTray_86 : decode cX1_doTray 86 = .ok (.bipush 100, 2) := by decide +kernel
theorem dX1_doTray_88 : decode cX1_doTray 88 = .ok (.irem, 1) := by decide +kernel
theorem dX1_doTray_89 : decode cX1_doTray 89 = .ok (.bipush 10, 2) := by decide +kernel
theorem dX1_doTray_91 : decode cX1_doTray 91 = .ok (.idiv, 1) := by decide +kernel
theorem dX1_doTray_92 : decode cX1_doTray 92 = .ok (.iload 6, 2) := by decide +kernel
theorem dX1_doTray_94 : decode cX1_doTray 94 = .ok (.bipush 10, 2) := by decide +kernel
theorem dX1_doTray_96 : decode cX1_doTray 96 = .ok (.irem, 1) := by decide +kernel
theorem dX1_doTray_97 : decode cX1_doTray 97 = .ok (.invokevirtual 82, 3) := by decide +kernel
theorem dX1_doTray_100 : decode cX1_doTray 100 = .ok (.putfield 69, 3) := by decide +kernel
theorem dX1_doTray_103 : decode cX1_doTray 103 = .ok (.aload_n 0, 1) := by decide +kernel
theorem dX1_doTray_104 : decode cX1_doTray 104 = .ok (.getfield 69, 3) := by decide +kernel
theorem dX1_doTray_107 : decode cX1_doTray 107 = .ok (.ifCond .eq 5, 3) := by decide +kernel
theorem dX1_doTray_110 : decode cX1_doTray 110 = .ok (.iload_n 3, 1) := by decide +kernel
theorem dX1_doTray_111 : decode cX1_doTray 111 = .ok (.ireturn, 1) := by decide +kernel
theorem dX1_doTray_112 : decode cX1_doTray 112 = .ok (.iinc 3 1, 3) := by decide +kernel
theorem dX1_doTray_115 : decode cX1_doTray 115 = .ok (.goto (-99), 3) := by decide +kernel
theorem dX1_doTray_118 : decode cX1_doTray 118 = .ok (.iload_n 2, 1) := by decide +kernel
theorem dX1_doTray_119 : decode cX1_doTray 119 = .ok (.ireturn, 1) := by decide +kernel
def f_X1_doTray_75 (kb_16 : Int32 → Int32 → Int32 → zS → Option (Int32 × zS)) (v1 : Int32) (v2 : Int32) (v3 : Int32) (w0 : Int32) (s : zS) : Option (Int32 × zS) :=
  zbd (f_X1_tryDeed (w0 / (nI 100)) ((zo_rem w0 (nI 100)) / (nI 10)) (zo_rem w0 (nI 10)) s) fun r1 s2 =>
  zb (zs_i s2 72 4 r1) fun s3 =>
  if (s3.1 72 4) = 0 then
  (zb (v3 + (1 : Int32)) fun x4 =>
  kb_16 v1 v2 x4 s3)
  else
  some (v3, s3)
set_option maxRecDepth 20000 in
theorem b_X1_doTray_75 {X : zX} {kb_16 : Int32 → Int32 → Int32 → zS → Option (Int32 × zS)} (hX : zx_ok X cX1_doTray RX1 7) (hT : zx_rt X (some .int) (zR 6 145)) (hk_16 : ∀ (v1 : Int32) (v2 : Int32) (v3 : Int32) (s : zS), zV X (zq X zrI) 7 16 [(0, .ref (zx_ad X 72)), (1, .int v1), (2, .int v2), (3, .int v3)] [] s (kb_16 v1 v2 v3 s)) : ∀ (v1 : Int32) (v2 : Int32) (v3 : Int32) (w0 : Int32) (s : zS), zV X (zq X zrI) 7 75 [(0, .ref (zx_ad X 72)), (1, .int v1), (2, .int v2), (3, .int v3)] [.int w0] s (f_X1_doTray_75 kb_16 v1 v2 v3 w0 s) := by
  intro v1 v2 v3 w0 s
  unfold f_X1_doTray_75
  refine zv_istore (lv' := [(6, .int w0), (0, .ref (zx_ad X 72)), (1, .int v1), (2, .int v2), (3, .int v3)]) hX dX1_doTray_75 (by decide) rfl ?_
  refine zv_aload_n hX dX1_doTray_77 1 rfl ?_
  refine zv_aload_n hX dX1_doTray_78 1 rfl ?_
  refine zv_iload hX dX1_doTray_79 0 rfl ?_
  refine zv_bipush (v := (nI 100)) hX dX1_doTray_81 zi_b_100 ?_
  refine zv_idiv hX dX1_doTray_83 (by decide) ?_
  refine zv_iload hX dX1_doTray_84 0 rfl ?_
  refine zv_bipush (v := (nI 100)) hX dX1_doTray_86 zi_b_100 ?_
  refine zv_irem hX dX1_doTray_88 (by decide) ?_
  refine zv_bipush (v := (nI 10)) hX dX1_doTray_89 zi_b_10 ?_
  refine zv_idiv hX dX1_doTray_91 (by decide) ?_
  refine zv_iload hX dX1_doTray_92 0 rfl ?_
  refine zv_bipush (v := (nI 10)) hX dX1_doTray_94 zi_b_10 ?_
  refine zv_irem hX dX1_doTray_96 (by decide) ?_
  refine zv_cVI [.int (w0 / (nI 100)), .int ((zo_rem w0 (nI 100)) / (nI 10)), .int (zo_rem w0 (nI 10))] (rest := [.ref (zx_ad X 72)]) hX hT.2.2.2.2 (c_X1_tryDeed (zx_Y X) (w0 / (nI 100)) ((zo_rem w0 (nI 100)) / (nI 10)) (zo_rem w0 (nI 10)) s) wv_X1_tryDeed c9_1 zd_72 wm_X1_82 rfl (Nat.le_of_ble_eq_true rfl) (Nat.le_of_ble_eq_true rfl) rfl (Nat.le_of_ble_eq_true rfl) dX1_doTray_97 (fun r1 s2 => ?_)
  refine zv_puti hX wf_X1_69 wc_1 wk_1_4 zd_72 zj_72_4 c9_1 zr_72_4 dX1_doTray_100 (fun s3 => ?_)
  refine zv_aload_n hX dX1_doTray_103 1 rfl ?_
  refine zv_geti hX wf_X1_69 wc_1 zd_72 zj_72_4 c9_1 zr_72_4 dX1_doTray_104 ?_
  refine zv_if_eq (tgt := 112) hX dX1_doTray_107 rfl ?_ ?_
  · refine zv_iincB (lw := fun x4 => [(3, .int x4), (6, .int w0), (0, .ref (zx_ad X 72)), (1, .int v1), (2, .int v2)]) hX dX1_doTray_112 4 rfl zi_i_1 (by decide) (fun _ => rfl) (fun x4 => ?_)
    refine zv_goto (tgt := 16) hX dX1_doTray_115 rfl ?_
    exact zv_sub [2, 3, 4, 0] rfl (hk_16 v1 v2 x4 s3)
  · refine zv_iload_n hX dX1_doTray_110 4 rfl ?_
    exact zv_ireti hX hT dX1_doTray_111
def f_X1_doTray_66 (kb_16 : Int32 → Int32 → Int32 → zS → Option (Int32 × zS)) (v1 : Int32) (v2 : Int32) (v3 : Int32) (s : zS) : Option (Int32 × zS) :=
  f_X1_doTray_75 kb_16 v1 v2 v3 (nI 499) s
set_option maxRecDepth 20000 in
theorem b_X1_doTray_66 {X : zX} {kb_16 : Int32 → Int32 → Int32 → zS → Option (Int32 × zS)} (hX : zx_ok X cX1_doTray RX1 7) (hT : zx_rt X (some .int) (zR 6 145)) (hk_16 : ∀ (v1 : Int32) (v2 : Int32) (v3 : Int32) (s : zS), zV X (zq X zrI) 7 16 [(0, .ref (zx_ad X 72)), (1, .int v1), (2, .int v2), (3, .int v3)] [] s (kb_16 v1 v2 v3 s)) : ∀ (v1 : Int32) (v2 : Int32) (v3 : Int32) (s : zS), zV X (zq X zrI) 7 66 [(0, .ref (zx_ad X 72)), (1, .int v1), (2, .int v2), (3, .int v3)] [] s (f_X1_doTray_66 kb_16 v1 v2 v3 s) := by
  intro v1 v2 v3 s
  unfold f_X1_doTray_66
  refine zv_sipush (v := (nI 499)) hX dX1_doTray_66 zi_s_499 ?_
  refine zv_goto (tgt := 75) hX dX1_doTray_69 rfl ?_
  exact b_X1_doTray_75 hX hT hk_16 v1 v2 v3 (nI 499) s
def f_X1_doTray_72 (kb_16 : Int32 → Int32 → Int32 → zS → Option (Int32 × zS)) (v1 : Int32) (v2 : Int32) (v3 : Int32) (v4 : Int64) (s : zS) : Option (Int32 × zS) :=
  f_X1_doTray_75 kb_16 v1 v2 v3 (v4.toInt32) s
set_option maxRecDepth 20000 in
theorem b_X1_doTray_72 {X : zX} {kb_16 : Int32 → Int32 → Int32 → zS → Option (Int32 × zS)} (hX : zx_ok X cX1_doTray RX1 7) (hT : zx_rt X (some .int) (zR 6 145)) (hk_16 : ∀ (v1 : Int32) (v2 : Int32) (v3 : Int32) (s : zS), zV X (zq X zrI) 7 16 [(0, .ref (zx_ad X 72)), (1, .int v1), (2, .int v2), (3, .int v3)] [] s (kb_16 v1 v2 v3 s)) : ∀ (v1 : Int32) (v2 : Int32) (v3 : Int32) (v4 : Int64) (s : zS), zV X (zq X zrI) 7 72 [(0, .ref (zx_ad X 72)), (1, .int v1), (2, .int v2), (3, .int v3), (4, .long v4)] [] s (f_X1_doTray_72 kb_16 v1 v2 v3 v4 s) := by
  intro v1 v2 v3 v4 s
  unfold f_X1_doTray_72
  refine zv_lload hX dX1_doTray_72 4 rfl ?_
  refine zv_l2i hX dX1_doTray_74 ?_
  exact zv_sub [0, 1, 2, 3] rfl (b_X1_doTray_75 hX hT hk_16 v1 v2 v3 (v4.toInt32) s)
def f_X1_doTray_16 : Nat → Int32 → Int32 → Int32 → zS → Option (Int32 × zS)
  | 0, _, _, _, _ => none
  | n + 1, v1, v2, v3, s =>
    if v2 ≤ v3 then
    (some (v2, s))
    else
    zbd (f_X6_numberAt v1 v3 s) fun r5 s6 =>
    if (lg_cmp r5 (0 : Int64)) < 0 then
    (f_X1_doTray_66 (f_X1_doTray_16 n) v1 v2 v3 s6)
    else
    if 0 < (lg_cmp r5 (399 : Int64)) then
    (f_X1_doTray_66 (f_X1_doTray_16 n) v1 v2 v3 s6)
    else
    if (lg_cmp r5 (109 : Int64)) ≤ 0 then
    (f_X1_doTray_72 (f_X1_doTray_16 n) v1 v2 v3 r5 s6)
    else
    if 0 ≤ (lg_cmp r5 (200 : Int64)) then
    (f_X1_doTray_72 (f_X1_doTray_16 n) v1 v2 v3 r5 s6)
    else
    f_X1_doTray_66 (f_X1_doTray_16 n) v1 v2 v3 s6
set_option maxRecDepth 20000 in
theorem b_X1_doTray_16 {X : zX} (hX : zx_ok X cX1_doTray RX1 7) (hT : zx_rt X (some .int) (zR 6 145)) : ∀ (n : Nat) (v1 : Int32) (v2 : Int32) (v3 : Int32) (s : zS), zV X (zq X zrI) 7 16 [(0, .ref (zx_ad X 72)), (1, .int v1), (2, .int v2), (3, .int v3)] [] s (f_X1_doTray_16 n v1 v2 v3 s) := by
  intro n
  induction n with
  | zero => intro v1 v2 v3 s; exact zv_none
  | succ n ih =>
    intro v1 v2 v3 s
    rw [f_X1_doTray_16]
    refine zv_iload_n hX dX1_doTray_16 3 rfl ?_
    refine zv_iload_n hX dX1_doTray_17 2 rfl ?_
    refine zv_icmp_ge (tgt := 118) hX dX1_doTray_18 rfl ?_ ?_
    · refine zv_iload_n hX dX1_doTray_118 2 rfl ?_
      exact zv_ireti hX hT dX1_doTray_119
    · refine zv_aload_n hX dX1_doTray_21 0 rfl ?_
      refine zv_geta hX wf_X1_19 wc_1 zd_72 zj_72_2 c9_1 zr_72_2 (by decide) dX1_doTray_22 ?_
      refine zv_iload_n hX dX1_doTray_25 1 rfl ?_
      refine zv_iload_n hX dX1_doTray_26 3 rfl ?_
      refine zv_cVJ [.int v1, .int v3] (rest := []) hX hT.2.2.2.2 (c_X6_numberAt (zx_Y X) v1 v3 s) wv_X6_numberAt c9_6 zd_68 wm_X1_72 rfl (Nat.le_of_ble_eq_true rfl) (Nat.le_of_ble_eq_true rfl) rfl (Nat.le_of_ble_eq_true rfl) dX1_doTray_27 (fun r5 s6 => ?_)
      refine zv_lstore (lv' := [(4, .long r5), (0, .ref (zx_ad X 72)), (1, .int v1), (2, .int v2), (3, .int v3)]) hX dX1_doTray_30 (by decide) rfl ?_
      refine zv_lload hX dX1_doTray_32 0 rfl ?_
      refine zv_lconst (v := (0 : Int64)) hX dX1_doTray_34 zi_l_0 ?_
      refine zv_lcmp hX dX1_doTray_35 ?_
      refine zv_if_lt (tgt := 66) hX dX1_doTray_36 rfl ?_ ?_
      · exact zv_sub [1, 2, 3, 4] rfl (b_X1_doTray_66 hX hT ih v1 v2 v3 s6)
      · refine zv_lload hX dX1_doTray_39 0 rfl ?_
        refine zv_ldc2 hX wn_X1_76 dX1_doTray_41 ?_
        refine zv_lcmp hX dX1_doTray_44 ?_
        refine zv_if_gt (tgt := 66) hX dX1_doTray_45 rfl ?_ ?_
        · exact zv_sub [1, 2, 3, 4] rfl (b_X1_doTray_66 hX hT ih v1 v2 v3 s6)
        · refine zv_lload hX dX1_doTray_48 0 rfl ?_
          refine zv_ldc2 hX wn_X1_78 dX1_doTray_50 ?_
          refine zv_lcmp hX dX1_doTray_53 ?_
          refine zv_if_le (tgt := 72) hX dX1_doTray_54 rfl ?_ ?_
          · exact zv_sub [1, 2, 3, 4, 0] rfl (b_X1_doTray_72 hX hT ih v1 v2 v3 r5 s6)
          · refine zv_lload hX dX1_doTray_57 0 rfl ?_
            refine zv_ldc2 hX wn_X1_80 dX1_doTray_59 ?_
            refine zv_lcmp hX dX1_doTray_62 ?_
            refine zv_if_ge (tgt := 72) hX dX1_doTray_63 rfl ?_ ?_
            · exact zv_sub [1, 2, 3, 4, 0] rfl (b_X1_doTray_72 hX hT ih v1 v2 v3 r5 s6)
            · exact zv_sub [1, 2, 3, 4] rfl (b_X1_doTray_66 hX hT ih v1 v2 v3 s6)
def f_X1_doTray (v1 : Int32) (s : zS) : Option (Int32 × zS) :=
  zbd (f_X6_sizeOf v1 s) fun r7 s8 =>
  zb (zs_i s8 72 4 (0 : Int32)) fun s9 =>
  f_X1_doTray_16 zFU v1 r7 (0 : Int32) s9
set_option maxRecDepth 20000 in
theorem c_X1_doTray (Y : zG) (v1 : Int32) (s : zS) : zM Y yX1_doTray cX1_doTray 7 (some .int) (zR 6 145) [.ref (zy_a Y 72), .int v1] s zrI (f_X1_doTray v1 s) := by
  refine zm_start (by decide +kernel) (Nat.le_of_ble_eq_true rfl) ?_
  intro X hY hT hX
  subst hY
  have hX : zx_ok X cX1_doTray RX1 7 := hX
  show zV X (zq X zrI) 7 0 [(0, .ref (zx_ad X 72)), (1, .int v1)] [] s _
  unfold f_X1_doTray
  refine zv_aload_n hX dX1_doTray_0 0 rfl ?_
  refine zv_geta hX wf_X1_19 wc_1 zd_72 zj_72_2 c9_1 zr_72_2 (by decide) dX1_doTray_1 ?_
  refine zv_iload_n hX dX1_doTray_4 1 rfl ?_
  refine zv_cVI [.int v1] (rest := []) hX hT.2.2.2.2 (c_X6_sizeOf (zx_Y X) v1 s) wv_X6_sizeOf c9_6 zd_68 wm_X1_64 rfl (Nat.le_of_ble_eq_true rfl) (Nat.le_of_ble_eq_true rfl) rfl (Nat.le_of_ble_eq_true rfl) dX1_doTray_5 (fun r7 s8 => ?_)
  refine zv_istore_n (lv' := [(2, .int r7), (0, .ref (zx_ad X 72)), (1, .int v1)]) hX dX1_doTray_8 (by decide) rfl ?_
  refine zv_aload_n hX dX1_doTray_9 1 rfl ?_
  refine zv_iconst (v := (0 : Int32)) hX dX1_doTray_10 zi_i_0 ?_
  refine zv_puti hX wf_X1_69 wc_1 wk_1_4 zd_72 zj_72_4 c9_1 zr_72_4 dX1_doTray_11 (fun s9 => ?_)
  refine zv_iconst (v := (0 : Int32)) hX dX1_doTray_14 zi_i_0 ?_
  refine zv_istore_n (lv' := [(3, .int (0 : Int32)), (2, .int r7), (0, .ref (zx_ad X 72)), (1, .int v1)]) hX dX1_doTray_15 (by decide) rfl ?_
  exact zv_sub [2, 3, 1, 0] rfl (b_X1_doTray_16 hX hT zFU v1 r7 (0 : Int32) s9)
theorem dX1_draw_0 : decode cX1_draw 0 = .ok (.aload_n 0, 1) := by decide +kernel
theorem dX1_draw_1 : decode cX1_draw 1 = .ok (.ldc 110, 2) := by decide +kernel
theorem dX1_draw_3 : decode cX1_draw 3 = .ok (.aload_n 0, 1) := by decide +kernel
theorem dX1_draw_4 : decode cX1_draw 4 = .ok (.getfield 99, 3) := by decide +kernel
theorem dX1_draw_7 : decode cX1_draw 7 = .ok (.imul, 1) := by decide +kernel
theorem dX1_draw_8 : decode cX1_draw 8 = .ok (.sipush 12345, 3) := by decide +kernel
theorem dX1_draw_11 : decode cX1_draw 11 = .ok (.iadd, 1) := by decide +kernel
theorem dX1_draw_12 : decode cX1_draw 12 = .ok (.putfield 99, 3) := by decide +kernel
theorem dX1_draw_15 : decode cX1_draw 15 = .ok (.iload_n 1, 1) := by decide +kernel
theorem dX1_draw_16 : decode cX1_draw 16 = .ok (.ifCond .le 15, 3) := by decide +kernel
theorem dX1_draw_19 : decode cX1_draw 19 = .ok (.aload_n 0, 1) := by decide +kernel
theorem dX1_draw_20 : decode cX1_draw 20 = .ok (.getfield 99, 3) := by decide +kernel
theorem dX1_draw_23 : decode cX1_draw 23 = .ok (.bipush 16, 2) := by decide +kernel
theorem dX1_draw_25 : decode cX1_draw 25 = .ok (.iushr, 1) := by decide +kernel
theorem dX1_draw_26 : decode cX1_draw 26 = .ok (.iload_n 1, 1) := by decide +kernel
theorem dX1_draw_27 : decode cX1_draw 27 = .ok (.irem, 1) := by decide +kernel
theorem dX1_draw_28 : decode cX1_draw 28 = .ok (.goto 4, 3) := by decide +kernel
theorem dX1_draw_31 : decode cX1_draw 31 = .ok (.iconst 0, 1) := by decide +kernel
theorem dX1_draw_32 : decode cX1_draw 32 = .ok (.ireturn, 1) := by decide +kernel
def f_X1_draw_32 (w0 : Int32) (s : zS) : Option (Int32 × zS) :=
  some (w0, s)
set_option maxRecDepth 20000 in
theorem b_X1_draw_32 {X : zX} (hX : zx_ok X cX1_draw RX1 2) (hT : zx_rt X (some .int) (zR 0 0)) : ∀ (w0 : Int32) (s : zS), zV X (zq X zrI) 2 32 [] [.int w0] s (f_X1_draw_32 w0 s) := by
  intro w0 s
  unfold f_X1_draw_32
  exact zv_ireti hX hT dX1_draw_32
def f_X1_draw (v1 : Int32) (s : zS) : Option (Int32 × zS) :=
  zb (zs_i s 72 5 (((1103515245 : Int32) * (s.1 72 5)) + (nI 12345))) fun s1 =>
  if v1 ≤ 0 then
  (f_X1_draw_32 (0 : Int32) s1)
  else
  if v1 = 0 then none else
  f_X1_draw_32 (zo_rem (zo_ush (s1.1 72 5) (nI 16)) v1) s1
set_option maxRecDepth 20000 in
theorem c_X1_draw (Y : zG) (v1 : Int32) (s : zS) : zM Y yX1_draw cX1_draw 2 (some .int) (zR 0 0) [.ref (zy_a Y 72), .int v1] s zrI (f_X1_draw v1 s) := by
  refine zm_start (by decide +kernel) (Nat.le_of_ble_eq_true rfl) ?_
  intro X hY hT hX
  subst hY
  have hX : zx_ok X cX1_draw RX1 2 := hX
  show zV X (zq X zrI) 2 0 [(0, .ref (zx_ad X 72)), (1, .int v1)] [] s _
  unfold f_X1_draw
  refine zv_aload_n hX dX1_draw_0 0 rfl ?_
  refine zv_ldc hX wn_X1_110 dX1_draw_1 ?_
  refine zv_aload_n hX dX1_draw_3 0 rfl ?_
  refine zv_geti hX wf_X1_99 wc_1 zd_72 zj_72_5 c9_1 zr_72_5 dX1_draw_4 ?_
  refine zv_imul hX dX1_draw_7 ?_
  refine zv_sipush (v := (nI 12345)) hX dX1_draw_8 zi_s_12345 ?_
  refine zv_iadd hX dX1_draw_11 ?_
  refine zv_puti hX wf_X1_99 wc_1 wk_1_5 zd_72 zj_72_5 c9_1 zr_72_5 dX1_draw_12 (fun s1 => ?_)
  refine zv_iload_n hX dX1_draw_15 1 rfl ?_
  refine zv_if_le (tgt := 31) hX dX1_draw_16 rfl ?_ ?_
  · refine zv_iconst (v := (0 : Int32)) hX dX1_draw_31 zi_i_0 ?_
    exact zv_sub [] rfl (b_X1_draw_32 hX hT (0 : Int32) s1)
  · refine zv_aload_n hX dX1_draw_19 0 rfl ?_
    refine zv_geti hX wf_X1_99 wc_1 zd_72 zj_72_5 c9_1 zr_72_5 dX1_draw_20 ?_
    refine zv_bipush (v := (nI 16)) hX dX1_draw_23 zi_b_16 ?_
    refine zv_iushr hX dX1_draw_25 ?_
    refine zv_iload_n hX dX1_draw_26 1 rfl ?_
    refine zv_iremB hX dX1_draw_27 ?_
    refine zv_goto (tgt := 32) hX dX1_draw_28 rfl ?_
    exact zv_sub [] rfl (b_X1_draw_32 hX hT (zo_rem (zo_ush (s1.1 72 5) (nI 16)) v1) s1)
