theorem dX0_partnerIn_0 : decode cX0_partnerIn 0 = .ok (.iload_n 1, 1) := by decide +kernel
theorem dX0_partnerIn_1 : decode cX0_partnerIn 1 = .ok (.aload_n 0, 1) := by decide +kernel
theorem dX0_partnerIn_2 : decode cX0_partnerIn 2 = .ok (.getfield 101, 3) := by decide +kernel
theorem dX0_partnerIn_5 : decode cX0_partnerIn 5 = .ok (.if_icmp .ge 28, 3) := by decide +kernel
theorem dX0_partnerIn_8 : decode cX0_partnerIn 8 = .ok (.iload_n 1, 1) := by decide +kernel
theorem dX0_partnerIn_9 : decode cX0_partnerIn 9 = .ok (.sipush 232, 3) := by decide +kernel
theorem dX0_partnerIn_12 : decode cX0_partnerIn 12 = .ok (.if_icmp .ge 21, 3) := by decide +kernel
theorem dX0_partnerIn_15 : decode cX0_partnerIn 15 = .ok (.aload_n 0, 1) := by decide +kernel
theorem dX0_partnerIn_16 : decode cX0_partnerIn 16 = .ok (.getfield 24, 3) := by decide +kernel
theorem dX0_partnerIn_19 : decode cX0_partnerIn 19 = .ok (.iload_n 1, 1) := by decide +kernel
theorem dX0_partnerIn_20 : decode cX0_partnerIn 20 = .ok (.iaload, 1) := by decide +kernel
theorem dX0_partnerIn_21 : decode cX0_partnerIn 21 = .ok (.iconst 4, 1) := by decide +kernel
theorem dX0_partnerIn_22 : decode cX0_partnerIn 22 = .ok (.iload_n 2, 1) := by decide +kernel
theorem dX0_partnerIn_23 : decode cX0_partnerIn 23 = .ok (.imul, 1) := by decide +kernel
theorem dX0_partnerIn_24 : decode cX0_partnerIn 24 = .ok (.iushr, 1) := by decide +kernel
theorem dX0_partnerIn_25 : decode cX0_partnerIn 25 = .ok (.bipush 15, 2) := by decide +kernel
theorem dX0_partnerIn_27 : decode cX0_partnerIn 27 = .ok (.iand, 1) := by decide +kernel
theorem dX0_partnerIn_28 : decode cX0_partnerIn 28 = .ok (.iconst 1, 1) := by decide +kernel
theorem dX0_partnerIn_29 : decode cX0_partnerIn 29 = .ok (.isub, 1) := by decide +kernel
theorem dX0_partnerIn_30 : decode cX0_partnerIn 30 = .ok (.goto 4, 3) := by decide +kernel
theorem dX0_partnerIn_33 : decode cX0_partnerIn 33 = .ok (.iconst (-1), 1) := by decide +kernel
theorem dX0_partnerIn_34 : decode cX0_partnerIn 34 = .ok (.ireturn, 1) := by decide +kernel
def f_X0_partnerIn_34 (w0 : Int32) (s : zS) : Option (Int32 × zS) :=
  some (w0, s)
set_option maxRecDepth 20000 in
theorem b_X0_partnerIn_34 {X : zX} (hX : zx_ok X cX0_partnerIn RX0 3) (hT : zx_rt X (some .int) (zR 0 0)) : ∀ (w0 : Int32) (s : zS), zV X (zq X zrI) 3 34 [] [.int w0] s (f_X0_partnerIn_34 w0 s) := by
  intro w0 s
  unfold f_X0_partnerIn_34
  exact zv_ireti hX hT dX0_partnerIn_34
def f_X0_partnerIn_33  (s : zS) : Option (Int32 × zS) :=
  f_X0_partnerIn_34 (-1 : Int32) s
set_option maxRecDepth 20000 in
theorem b_X0_partnerIn_33 {X : zX} (hX : zx_ok X cX0_partnerIn RX0 3) (hT : zx_rt X (some .int) (zR 0 0)) : ∀  (s : zS), zV X (zq X zrI) 3 33 [] [] s (f_X0_partnerIn_33  s) := by
  intro  s
  unfold f_X0_partnerIn_33
  refine zv_iconst (v := (-1 : Int32)) hX dX0_partnerIn_33 zi_i_m1 ?_
  exact b_X0_partnerIn_34 hX hT (-1 : Int32) s
def f_X0_partnerIn (v1 : Int32) (v2 : Int32) (s : zS) : Option (Int32 × zS) :=
  if (s.1 60 8) ≤ v1 then
  (f_X0_partnerIn_33 s)
  else
  if (nI 232) ≤ v1 then
  (f_X0_partnerIn_33 s)
  else
  (zr_i s 65 v1).bind fun x1 =>
  f_X0_partnerIn_34 (((zo_ush x1 ((nI 4) * v2)) &&& (nI 15)) - (1 : Int32)) s
set_option maxRecDepth 20000 in
theorem c_X0_partnerIn (Y : zG) (v1 : Int32) (v2 : Int32) (s : zS) : zM Y yX0_partnerIn cX0_partnerIn 3 (some .int) (zR 0 0) [.ref (zy_a Y 60), .int v1, .int v2] s zrI (f_X0_partnerIn v1 v2 s) := by
  refine zm_start (by decide +kernel) (Nat.le_of_ble_eq_true rfl) ?_
  intro X hY hT hX
  subst hY
  have hX : zx_ok X cX0_partnerIn RX0 3 := hX
  show zV X (zq X zrI) 3 0 [(0, .ref (zx_ad X 60)), (1, .int v1), (2, .int v2)] [] s _
  unfold f_X0_partnerIn
  refine zv_iload_n hX dX0_partnerIn_0 1 rfl ?_
  refine zv_aload_n hX dX0_partnerIn_1 0 rfl ?_
  refine zv_geti hX wf_X0_101 wc_0 zd_60 zj_60_8 c9_0 zr_60_8 dX0_partnerIn_2 ?_
  refine zv_icmp_ge (tgt := 33) hX dX0_partnerIn_5 rfl ?_ ?_
  · exact zv_sub [] rfl (b_X0_partnerIn_33 hX hT  s)
  · refine zv_iload_n hX dX0_partnerIn_8 1 rfl ?_
    refine zv_sipush (v := (nI 232)) hX dX0_partnerIn_9 zi_s_232 ?_
    refine zv_icmp_ge (tgt := 33) hX dX0_partnerIn_12 rfl ?_ ?_
    · exact zv_sub [] rfl (b_X0_partnerIn_33 hX hT  s)
    · refine zv_aload_n hX dX0_partnerIn_15 0 rfl ?_
      refine zv_geta hX wf_X0_24 wc_0 zd_60 zj_60_7 c9_0 zr_60_7 (by decide) dX0_partnerIn_16 ?_
      refine zv_iload_n hX dX0_partnerIn_19 1 rfl ?_
      refine zv_iald hX dX0_partnerIn_20 (fun x1 => ?_)
      refine zv_iconst (v := (nI 4)) hX dX0_partnerIn_21 zi_i_4 ?_
      refine zv_iload_n hX dX0_partnerIn_22 2 rfl ?_
      refine zv_imul hX dX0_partnerIn_23 ?_
      refine zv_iushr hX dX0_partnerIn_24 ?_
      refine zv_bipush (v := (nI 15)) hX dX0_partnerIn_25 zi_b_15 ?_
      refine zv_iand hX dX0_partnerIn_27 ?_
      refine zv_iconst (v := (1 : Int32)) hX dX0_partnerIn_28 zi_i_1 ?_
      refine zv_isub hX dX0_partnerIn_29 ?_
      refine zv_goto (tgt := 34) hX dX0_partnerIn_30 rfl ?_
      exact zv_sub [] rfl (b_X0_partnerIn_34 hX hT (((zo_ush x1 ((nI 4) * v2)) &&& (nI 15)) - (1 : Int32)) s)
theorem dX0_addTogether_0 : decode cX0_addTogether 0 = .ok (.iconst 0, 1) := by decide +kernel
theorem dX0_addTogether_1 : decode cX0_addTogether 1 = .ok (.istore_n 2, 1) := by decide +kernel
theorem dX0_addTogether_2 : decode cX0_addTogether 2 = .ok (.iload_n 2, 1) := by decide +kernel
theorem dX0_addTogether_3 : decode cX0_addTogether 3 = .ok (.aload_n 0, 1) := by decide +kernel
theorem dX0_addTogether_4 : decode cX0_addTogether 4 = .ok (.getfield 33, 3) := by decide +kernel
theorem dX0_addTogether_7 : decode cX0_addTogether 7 = .ok (.getfield 65, 3) := by decide +kernel
theorem dX0_addTogether_10 : decode cX0_addTogether 10 = .ok (.if_icmp .ge 41, 3) := by decide +kernel
theorem dX0_addTogether_13 : decode cX0_addTogether 13 = .ok (.aload_n 0, 1) := by decide +kernel
theorem dX0_addTogether_14 : decode cX0_addTogether 14 = .ok (.iconst 0, 1) := by decide +kernel
theorem dX0_addTogether_15 : decode cX0_addTogether 15 = .ok (.iload_n 2, 1) := by decide +kernel
theorem dX0_addTogether_16 : decode cX0_addTogether 16 = .ok (.invokevirtual 137, 3) := by decide +kernel
theorem dX0_addTogether_19 : decode cX0_addTogether 19 = .ok (.istore_n 3, 1) := by decide +kernel
theorem dX0_addTogether_20 : decode cX0_addTogether 20 = .ok (.iload_n 3, 1) := by decide +kernel
theorem dX0_addTogether_21 : decode cX0_addTogether 21 = .ok (.ifCond .lt 24, 3) := by decide +kernel
theorem dX0_addTogether_24 : decode cX0_addTogether 24 = .ok (.iload_n 3, 1) := by decide +kernel
theorem dX0_addTogether_25 : decode cX0_addTogether 25 = .ok (.bipush 7, 2) := by decide +kernel
theorem dX0_addTogether_27 : decode cX0_addTogether 27 = .ok (.if_icmp .ge 18, 3) := by decide +kernel
theorem dX0_addTogether_30 : decode cX0_addTogether 30 = .ok (.aload_n 0, 1) := by decide +kernel
theorem dX0_addTogether_31 : decode cX0_addTogether 31 = .ok (.getfield 27, 3) := by decide +kernel
theorem dX0_addTogether_34 : decode cX0_addTogether 34 = .ok (.iload_n 2, 1) := by decide +kernel
theorem dX0_addTogether_35 : decode cX0_addTogether 35 = .ok (.bipush 7, 2) := by decide +kernel
theorem dX0_addTogether_37 : decode cX0_addTogether 37 = .ok (.imul, 1) := by decide +kernel
theorem dX0_addTogether_38 : decode cX0_addTogether 38 = .ok (.iload_n 3, 1) := by decide +kernel
theorem dX0_addTogether_39 : decode cX0_addTogether 39 = .ok (.iadd, 1) := by decide +kernel
theorem dX0_addTogether_40 : decode cX0_addTogether 40 = .ok (.dup2, 1) := by decide +kernel
theorem dX0_addTogether_41 : decode cX0_addTogether 41 = .ok (.iaload, 1) := by decide +kernel
theorem dX0_addTogether_42 : decode cX0_addTogether 42 = .ok (.iload_n 1, 1) := by decide +kernel
theorem dX0_addTogether_43 : decode cX0_addTogether 43 = .ok (.iadd, 1) := by decide +kernel
theorem dX0_addTogether_44 : decode cX0_addTogether 44 = .ok (.iastore, 1) := by decide +kernel
theorem dX0_addTogether_45 : decode cX0_addTogether 45 = .ok (.iinc 2 1, 3) := by decide +kernel
theorem dX0_addTogether_48 : decode cX0_addTogether 48 = .ok (.goto (-46), 3) := by decide +kernel
theorem dX0_addTogether_51 : decode cX0_addTogether 51 = .ok (.return_, 1) := by decide +kernel
def f_X0_addTogether_45 (kb_2 : Int32 → Int32 → zS → Option (Unit × zS)) (v1 : Int32) (v2 : Int32) (s : zS) : Option (Unit × zS) :=
  zb (v2 + (1 : Int32)) fun x1 =>
  kb_2 v1 x1 s
set_option maxRecDepth 20000 in
theorem b_X0_addTogether_45 {X : zX} {kb_2 : Int32 → Int32 → zS → Option (Unit × zS)} (hX : zx_ok X cX0_addTogether RX0 4) (hT : zx_rt X none (zR 1 22)) (hk_2 : ∀ (v1 : Int32) (v2 : Int32) (s : zS), zV X (zq X zrV) 4 2 [(0, .ref (zx_ad X 60)), (1, .int v1), (2, .int v2)] [] s (kb_2 v1 v2 s)) : ∀ (v1 : Int32) (v2 : Int32) (s : zS), zV X (zq X zrV) 4 45 [(0, .ref (zx_ad X 60)), (1, .int v1), (2, .int v2)] [] s (f_X0_addTogether_45 kb_2 v1 v2 s) := by
  intro v1 v2 s
  unfold f_X0_addTogether_45
  refine zv_iincB (lw := fun x1 => [(2, .int x1), (0, .ref (zx_ad X 60)), (1, .int v1)]) hX dX0_addTogether_45 2 rfl zi_i_1 (by decide) (fun _ => rfl) (fun x1 => ?_)
  refine zv_goto (tgt := 2) hX dX0_addTogether_48 rfl ?_
  exact zv_sub [1, 2, 0] rfl (hk_2 v1 x1 s)
def f_X0_addTogether_2 : Nat → Int32 → Int32 → zS → Option (Unit × zS)
  | 0, _, _, _ => none
  | n + 1, v1, v2, s =>
    if (s.1 3 0) ≤ v2 then
    (some ((), s))
    else
    zbd (f_X0_partnerIn (0 : Int32) v2 s) fun r2 s3 =>
    if r2 < 0 then
    (f_X0_addTogether_45 (f_X0_addTogether_2 n) v1 v2 s3)
    else
    if (nI 7) ≤ r2 then
    (f_X0_addTogether_45 (f_X0_addTogether_2 n) v1 v2 s3)
    else
    (zr_i s3 66 ((v2 * (nI 7)) + r2)).bind fun x4 =>
    (zw_i s3 66 ((v2 * (nI 7)) + r2) (x4 + v1)).bind fun s5 =>
    f_X0_addTogether_45 (f_X0_addTogether_2 n) v1 v2 s5
set_option maxRecDepth 20000 in
theorem b_X0_addTogether_2 {X : zX} (hX : zx_ok X cX0_addTogether RX0 4) (hT : zx_rt X none (zR 1 22)) : ∀ (n : Nat) (v1 : Int32) (v2 : Int32) (s : zS), zV X (zq X zrV) 4 2 [(0, .ref (zx_ad X 60)), (1, .int v1), (2, .int v2)] [] s (f_X0_addTogether_2 n v1 v2 s) := by
  intro n
  induction n with
  | zero => intro v1 v2 s; exact zv_none
  | succ n ih =>
    intro v1 v2 s
    rw [f_X0_addTogether_2]
    refine zv_iload_n hX dX0_addTogether_2 2 rfl ?_
    refine zv_aload_n hX dX0_addTogether_3 0 rfl ?_
    refine zv_geta hX wf_X0_33 wc_0 zd_60 zj_60_0 c9_0 zr_60_0 (by decide) dX0_addTogether_4 ?_
    refine zv_geti hX wf_X0_65 wc_5 zd_3 zj_3_0 c9_5 zr_3_0 dX0_addTogether_7 ?_
    refine zv_icmp_ge (tgt := 51) hX dX0_addTogether_10 rfl ?_ ?_
    · exact zv_vret hX hT dX0_addTogether_51
    · refine zv_aload_n hX dX0_addTogether_13 0 rfl ?_
      refine zv_iconst (v := (0 : Int32)) hX dX0_addTogether_14 zi_i_0 ?_
      refine zv_iload_n hX dX0_addTogether_15 2 rfl ?_
      refine zv_cVI [.int (0 : Int32), .int v2] (rest := []) hX hT.2.2.2.2 (c_X0_partnerIn (zx_Y X) (0 : Int32) v2 s) wv_X0_partnerIn c9_0 zd_60 wm_X0_137 rfl (Nat.le_of_ble_eq_true rfl) (Nat.le_of_ble_eq_true rfl) rfl (Nat.le_of_ble_eq_true rfl) dX0_addTogether_16 (fun r2 s3 => ?_)
      refine zv_istore_n (lv' := [(3, .int r2), (0, .ref (zx_ad X 60)), (1, .int v1), (2, .int v2)]) hX dX0_addTogether_19 (by decide) rfl ?_
      refine zv_iload_n hX dX0_addTogether_20 0 rfl ?_
      refine zv_if_lt (tgt := 45) hX dX0_addTogether_21 rfl ?_ ?_
      · exact zv_sub [1, 2, 3] rfl (b_X0_addTogether_45 hX hT ih v1 v2 s3)
      · refine zv_iload_n hX dX0_addTogether_24 0 rfl ?_
        refine zv_bipush (v := (nI 7)) hX dX0_addTogether_25 zi_b_7 ?_
        refine zv_icmp_ge (tgt := 45) hX dX0_addTogether_27 rfl ?_ ?_
        · exact zv_sub [1, 2, 3] rfl (b_X0_addTogether_45 hX hT ih v1 v2 s3)
        · refine zv_aload_n hX dX0_addTogether_30 1 rfl ?_
          refine zv_geta hX wf_X0_27 wc_0 zd_60 zj_60_11 c9_0 zr_60_11 (by decide) dX0_addTogether_31 ?_
          refine zv_iload_n hX dX0_addTogether_34 3 rfl ?_
          refine zv_bipush (v := (nI 7)) hX dX0_addTogether_35 zi_b_7 ?_
          refine zv_imul hX dX0_addTogether_37 ?_
          refine zv_iload_n hX dX0_addTogether_38 0 rfl ?_
          refine zv_iadd hX dX0_addTogether_39 ?_
          refine zv_dup2 hX dX0_addTogether_40 rfl rfl ?_
          refine zv_iald hX dX0_addTogether_41 (fun x4 => ?_)
          refine zv_iload_n hX dX0_addTogether_42 2 rfl ?_
          refine zv_iadd hX dX0_addTogether_43 ?_
          refine zv_iast hX dX0_addTogether_44 (fun s5 => ?_)
          exact zv_sub [1, 2, 3] rfl (b_X0_addTogether_45 hX hT ih v1 v2 s5)
def f_X0_addTogether (v1 : Int32) (s : zS) : Option (Unit × zS) :=
  f_X0_addTogether_2 zFU v1 (0 : Int32) s
set_option maxRecDepth 20000 in
theorem c_X0_addTogether (Y : zG) (v1 : Int32) (s : zS) : zM Y yX0_addTogether cX0_addTogether 4 none (zR 1 22) [.ref (zy_a Y 60), .int v1] s zrV (f_X0_addTogether v1 s) := by
  refine zm_start (by decide +kernel) (Nat.le_of_ble_eq_true rfl) ?_
  intro X hY hT hX
  subst hY
  have hX : zx_ok X cX0_addTogether RX0 4 := hX
  show zV X (zq X zrV) 4 0 [(0, .ref (zx_ad X 60)), (1, .int v1)] [] s _
  unfold f_X0_addTogether
  refine zv_iconst (v := (0 : Int32)) hX dX0_addTogether_0 zi_i_0 ?_
  refine zv_istore_n (lv' := [(2, .int (0 : Int32)), (0, .ref (zx_ad X 60)), (1, .int v1)]) hX dX0_addTogether_1 (by decide) rfl ?_
  exact zv_sub [1, 2, 0] rfl (b_X0_addTogether_2 hX hT zFU v1 (0 : Int32) s)
theorem dX5_ageOf_0 : decode cX5_ageOf 0 = .ok (.aload_n 0, 1) := by decide +kernel
theorem dX5_ageOf_1 : decode cX5_ageOf 1 = .ok (.getfield 30, 3) := by decide +kernel
theorem dX5_ageOf_4 : decode cX5_ageOf 4 = .ok (.iload_n 1, 1) := by decide +kernel
theorem dX5_ageOf_5 : decode cX5_ageOf 5 = .ok (.iaload, 1) := by decide +kernel
theorem dX5_ageOf_6 : decode cX5_ageOf 6 = .ok (.aload_n 0, 1) := by decide +kernel
theorem dX5_ageOf_7 : decode cX5_ageOf 7 = .ok (.getfield 33, 3) := by decide +kernel
theorem dX5_ageOf_10 : decode cX5_ageOf 10 = .ok (.iload_n 1, 1) := by decide +kernel
theorem dX5_ageOf_11 : decode cX5_ageOf 11 = .ok (.iaload, 1) := by decide +kernel
theorem dX5_ageOf_12 : decode cX5_ageOf 12 = .ok (.iadd, 1) := by decide +kernel
theorem dX5_ageOf_13 : decode cX5_ageOf 13 = .ok (.ireturn, 1) := by decide +kernel
def f_X5_ageOf_3 (v1 : Int32) (s : zS) : Option (Int32 × zS) :=
  (zr_i s 10 v1).bind fun x1 =>
  (zr_i s 11 v1).bind fun x2 =>
  some (x1 + x2, s)
set_option maxRecDepth 20000 in
theorem c_X5_ageOf_3 (Y : zG) (v1 : Int32) (s : zS) : zM Y yX5_ageOf cX5_ageOf 2 (some .int) (zR 0 0) [.ref (zy_a Y 3), .int v1] s zrI (f_X5_ageOf_3 v1 s) := by
  refine zm_start (by decide +kernel) (Nat.le_of_ble_eq_true rfl) ?_
  intro X hY hT hX
  subst hY
  have hX : zx_ok X cX5_ageOf RX5 2 := hX
  show zV X (zq X zrI) 2 0 [(0, .ref (zx_ad X 3)), (1, .int v1)] [] s _
  unfold f_X5_ageOf_3
  refine zv_aload_n hX dX5_ageOf_0 0 rfl ?_
  refine zv_geta hX wf_X5_30 wc_5 zd_3 zj_3_13 c9_5 zr_3_13 (by decide) dX5_ageOf_1 ?_
  refine zv_iload_n hX dX5_ageOf_4 1 rfl ?_
  refine zv_iald hX dX5_ageOf_5 (fun x1 => ?_)
  refine zv_aload_n hX dX5_ageOf_6 0 rfl ?_
  refine zv_geta hX wf_X5_33 wc_5 zd_3 zj_3_14 c9_5 zr_3_14 (by decide) dX5_ageOf_7 ?_
  refine zv_iload_n hX dX5_ageOf_10 1 rfl ?_
  refine zv_iald hX dX5_ageOf_11 (fun x2 => ?_)
  refine zv_iadd hX dX5_ageOf_12 ?_
  exact zv_ireti hX hT dX5_ageOf_13
theorem dX0_ageOfAll_0 : decode cX0_ageOfAll 0 = .ok (.iconst 0, 1) := by decide +kernel
theorem dX0_ageOfAll_1 : decode cX0_ageOfAll 1 = .ok (.istore_n 1, 1) := by decide +kernel
theorem dX0_ageOfAll_2 : decode cX0_ageOfAll 2 = .ok (.iconst 0, 1) := by decide +kernel
theorem dX0_ageOfAll_3 : decode cX0_ageOfAll 3 = .ok (.istore_n 2, 1) := by decide +kernel
theorem dX0_ageOfAll_4 : decode cX0_ageOfAll 4 = .ok (.iload_n 2, 1) := by decide +kernel
theorem dX0_ageOfAll_5 : decode cX0_ageOfAll 5 = .ok (.bipush 7, 2) := by decide +kernel
theorem dX0_ageOfAll_7 : decode cX0_ageOfAll 7 = .ok (.if_icmp .ge 20, 3) := by decide +kernel
theorem dX0_ageOfAll_10 : decode cX0_ageOfAll 10 = .ok (.iload_n 1, 1) := by decide +kernel
theorem dX0_ageOfAll_11 : decode cX0_ageOfAll 11 = .ok (.aload_n 0, 1) := by decide +kernel
theorem dX0_ageOfAll_12 : decode cX0_ageOfAll 12 = .ok (.getfield 33, 3) := by decide +kernel
theorem dX0_ageOfAll_15 : decode cX0_ageOfAll 15 = .ok (.iload_n 2, 1) := by decide +kernel
theorem dX0_ageOfAll_16 : decode cX0_ageOfAll 16 = .ok (.invokevirtual 41, 3) := by decide +kernel
theorem dX0_ageOfAll_19 : decode cX0_ageOfAll 19 = .ok (.iadd, 1) := by decide +kernel
theorem dX0_ageOfAll_20 : decode cX0_ageOfAll 20 = .ok (.istore_n 1, 1) := by decide +kernel
theorem dX0_ageOfAll_21 : decode cX0_ageOfAll 21 = .ok (.iinc 2 1, 3) := by decide +kernel
theorem dX0_ageOfAll_24 : decode cX0_ageOfAll 24 = .ok (.goto (-20), 3) := by decide +kernel
theorem dX0_ageOfAll_27 : decode cX0_ageOfAll 27 = .ok (.iload_n 1, 1) := by decide +kernel
theorem dX0_ageOfAll_28 : decode cX0_ageOfAll 28 = .ok (.ireturn, 1) := by decide +kernel
def f_X0_ageOfAll_4 : Nat → Int32 → Int32 → zS → Option (Int32 × zS)
  | 0, _, _, _ => none
  | n + 1, v1, v2, s =>
    if (nI 7) ≤ v2 then
    (some (v1, s))
    else
    zbd (f_X5_ageOf_3 v2 s) fun r1 s2 =>
    zb (v1 + r1) fun x3 =>
    zb (v2 + (1 : Int32)) fun x4 =>
    f_X0_ageOfAll_4 n x3 x4 s2
set_option maxRecDepth 20000 in
theorem b_X0_ageOfAll_4 {X : zX} (hX : zx_ok X cX0_ageOfAll RX0 3) (hT : zx_rt X (some .int) (zR 1 21)) : ∀ (n : Nat) (v1 : Int32) (v2 : Int32) (s : zS), zV X (zq X zrI) 3 4 [(0, .ref (zx_ad X 60)), (1, .int v1), (2, .int v2)] [] s (f_X0_ageOfAll_4 n v1 v2 s) := by
  intro n
  induction n with
  | zero => intro v1 v2 s; exact zv_none
  | succ n ih =>
    intro v1 v2 s
    rw [f_X0_ageOfAll_4]
    refine zv_iload_n hX dX0_ageOfAll_4 2 rfl ?_
    refine zv_bipush (v := (nI 7)) hX dX0_ageOfAll_5 zi_b_7 ?_
    refine zv_icmp_ge (tgt := 27) hX dX0_ageOfAll_7 rfl ?_ ?_
    · refine zv_iload_n hX dX0_ageOfAll_27 1 rfl ?_
      exact zv_ireti hX hT dX0_ageOfAll_28
    · refine zv_iload_n hX dX0_ageOfAll_10 1 rfl ?_
      refine zv_aload_n hX dX0_ageOfAll_11 0 rfl ?_
      refine zv_geta hX wf_X0_33 wc_0 zd_60 zj_60_0 c9_0 zr_60_0 (by decide) dX0_ageOfAll_12 ?_
      refine zv_iload_n hX dX0_ageOfAll_15 2 rfl ?_
      refine zv_cVI [.int v2] (rest := [.int v1]) hX hT.2.2.2.2 (c_X5_ageOf_3 (zx_Y X) v2 s) wv_X5_ageOf c9_5 zd_3 wm_X0_41 rfl (Nat.le_of_ble_eq_true rfl) (Nat.le_of_ble_eq_true rfl) rfl (Nat.le_of_ble_eq_true rfl) dX0_ageOfAll_16 (fun r1 s2 => ?_)
      refine zv_iadd hX dX0_ageOfAll_19 ?_
      refine zv_istB_n (lw := fun x3 => [(1, .int x3), (0, .ref (zx_ad X 60)), (2, .int v2)]) hX dX0_ageOfAll_20 (by decide) (fun _ => rfl) (fun x3 => ?_)
      refine zv_iincB (lw := fun x4 => [(2, .int x4), (1, .int x3), (0, .ref (zx_ad X 60))]) hX dX0_ageOfAll_21 2 rfl zi_i_1 (by decide) (fun _ => rfl) (fun x4 => ?_)
      refine zv_goto (tgt := 4) hX dX0_ageOfAll_24 rfl ?_
      exact zv_sub [2, 1, 0] rfl (ih x3 x4 s2)
def f_X0_ageOfAll  (s : zS) : Option (Int32 × zS) :=
  f_X0_ageOfAll_4 zFU (0 : Int32) (0 : Int32) s
set_option maxRecDepth 20000 in
theorem c_X0_ageOfAll (Y : zG)  (s : zS) : zM Y yX0_ageOfAll cX0_ageOfAll 3 (some .int) (zR 1 21) [.ref (zy_a Y 60)] s zrI (f_X0_ageOfAll  s) := by
  refine zm_start (by decide +kernel) (Nat.le_of_ble_eq_true rfl) ?_
  intro X hY hT hX
  subst hY
  have hX : zx_ok X cX0_ageOfAll RX0 3 := hX
  show zV X (zq X zrI) 3 0 [(0, .ref (zx_ad X 60))] [] s _
  unfold f_X0_ageOfAll
  refine zv_iconst (v := (0 : Int32)) hX dX0_ageOfAll_0 zi_i_0 ?_
  refine zv_istore_n (lv' := [(1, .int (0 : Int32)), (0, .ref (zx_ad X 60))]) hX dX0_ageOfAll_1 (by decide) rfl ?_
  refine zv_iconst (v := (0 : Int32)) hX dX0_ageOfAll_2 zi_i_0 ?_
  refine zv_istore_n (lv' := [(2, .int (0 : Int32)), (1, .int (0 : Int32)), (0, .ref (zx_ad X 60))]) hX dX0_ageOfAll_3 (by decide) rfl ?_
  exact zv_sub [2, 1, 0] rfl (b_X0_ageOfAll_4 hX hT zFU (0 : Int32) (0 : Int32) s)
theorem dX0_areKnownToMatch_0 : decode cX0_areKnownToMatch 0 = .ok (.aload_n 0, 1) := by decide +kernel
theorem dX0_areKnownToMatch_1 : decode cX0_areKnownToMatch 1 = .ok (.getfield 9, 3) := by decide +kernel
theorem dX0_areKnownToMatch_4 : decode cX0_areKnownToMatch 4 = .ok (.iload_n 1, 1) := by decide +kernel
theorem dX0_areKnownToMatch_5 : decode cX0_areKnownToMatch 5 = .ok (.iaload, 1) := by decide +kernel
theorem dX0_areKnownToMatch_6 : decode cX0_areKnownToMatch 6 = .ok (.iload_n 2, 1) := by decide +kernel
theorem dX0_areKnownToMatch_7 : decode cX0_areKnownToMatch 7 = .ok (.iushr, 1) := by decide +kernel
theorem dX0_areKnownToMatch_8 : decode cX0_areKnownToMatch 8 = .ok (.iconst 1, 1) := by decide +kernel
theorem dX0_areKnownToMatch_9 : decode cX0_areKnownToMatch 9 = .ok (.iand, 1) := by decide +kernel
theorem dX0_areKnownToMatch_10 : decode cX0_areKnownToMatch 10 = .ok (.iconst 1, 1) := by decide +kernel
theorem dX0_areKnownToMatch_11 : decode cX0_areKnownToMatch 11 = .ok (.if_icmp .ne 7, 3) := by decide +kernel
theorem dX0_areKnownToMatch_14 : decode cX0_areKnownToMatch 14 = .ok (.iconst 1, 1) := by decide +kernel
theorem dX0_areKnownToMatch_15 : decode cX0_areKnownToMatch 15 = .ok (.goto 4, 3) := by decide +kernel
theorem dX0_areKnownToMatch_18 : decode cX0_areKnownToMatch 18 = .ok (.iconst 0, 1) := by decide +kernel
theorem dX0_areKnownToMatch_19 : decode cX0_areKnownToMatch 19 = .ok (.ireturn, 1) := by decide +kernel
def f_X0_areKnownToMatch_19 (w0 : Int32) (s : zS) : Option (Int32 × zS) :=
  if w0 = 0 ∨ w0 = 1 then some (w0, s) else none
set_option maxRecDepth 20000 in
theorem b_X0_areKnownToMatch_19 {X : zX} (hX : zx_ok X cX0_areKnownToMatch RX0 3) (hT : zx_rt X (some .boolean) (zR 0 0)) : ∀ (w0 : Int32) (s : zS), zV X (zq X zrI) 3 19 [] [.int w0] s (f_X0_areKnownToMatch_19 w0 s) := by
  intro w0 s
  unfold f_X0_areKnownToMatch_19
  exact zv_iretzB hX hT dX0_areKnownToMatch_19
def f_X0_areKnownToMatch (v1 : Int32) (v2 : Int32) (s : zS) : Option (Int32 × zS) :=
  (zr_i s 61 v1).bind fun x1 =>
  if ¬ ((zo_ush x1 v2) &&& (1 : Int32)) = (1 : Int32) then
  (f_X0_areKnownToMatch_19 (0 : Int32) s)
  else
  f_X0_areKnownToMatch_19 (1 : Int32) s
set_option maxRecDepth 20000 in
theorem c_X0_areKnownToMatch (Y : zG) (v1 : Int32) (v2 : Int32) (s : zS) : zM Y yX0_areKnownToMatch cX0_areKnownToMatch 3 (some .boolean) (zR 0 0) [.ref (zy_a Y 60), .int v1, .int v2] s zrI (f_X0_areKnownToMatch v1 v2 s) := by
  refine zm_start (by decide +kernel) (Nat.le_of_ble_eq_true rfl) ?_
  intro X hY hT hX
  subst hY
  have hX : zx_ok X cX0_areKnownToMatch RX0 3 := hX
  show zV X (zq X zrI) 3 0 [(0, .ref (zx_ad X 60)), (1, .int v1), (2, .int v2)] [] s _
  unfold f_X0_areKnownToMatch
  refine zv_aload_n hX dX0_areKnownToMatch_0 0 rfl ?_
  refine zv_geta hX wf_X0_9 wc_0 zd_60 zj_60_2 c9_0 zr_60_2 (by decide) dX0_areKnownToMatch_1 ?_
  refine zv_iload_n hX dX0_areKnownToMatch_4 1 rfl ?_
  refine zv_iald hX dX0_areKnownToMatch_5 (fun x1 => ?_)
  refine zv_iload_n hX dX0_areKnownToMatch_6 2 rfl ?_
  refine zv_iushr hX dX0_areKnownToMatch_7 ?_
  refine zv_iconst (v := (1 : Int32)) hX dX0_areKnownToMatch_8 zi_i_1 ?_
  refine zv_iand hX dX0_areKnownToMatch_9 ?_
  refine zv_iconst (v := (1 : Int32)) hX dX0_areKnownToMatch_10 zi_i_1 ?_
  refine zv_icmp_ne (tgt := 18) hX dX0_areKnownToMatch_11 rfl ?_ ?_
  · refine zv_iconst (v := (0 : Int32)) hX dX0_areKnownToMatch_18 zi_i_0 ?_
    exact zv_sub [] rfl (b_X0_areKnownToMatch_19 hX hT (0 : Int32) s)
  · refine zv_iconst (v := (1 : Int32)) hX dX0_areKnownToMatch_14 zi_i_1 ?_
    refine zv_goto (tgt := 19) hX dX0_areKnownToMatch_15 rfl ?_
    exact zv_sub [] rfl (b_X0_areKnownToMatch_19 hX hT (1 : Int32) s)
theorem dX4_learnApart_0 : decode cX4_learnApart 0 = .ok (.iconst 0, 1) := by decide +kernel
theorem dX4_learnApart_1 : decode cX4_learnApart 1 = .ok (.istore 4, 2) := by decide +kernel
theorem dX4_learnApart_3 : decode cX4_learnApart 3 = .ok (.iload 4, 2) := by decide +kernel
theorem dX4_learnApart_5 : decode cX4_learnApart 5 = .ok (.bipush 25, 2) := by decide +kernel
theorem dX4_learnApart_7 : decode cX4_learnApart 7 = .ok (.if_icmp .ge 16, 3) := by decide +kernel
theorem dX4_learnApart_10 : decode cX4_learnApart 10 = .ok (.aload_n 0, 1) := by decide +kernel
theorem dX4_learnApart_11 : decode cX4_learnApart 11 = .ok (.iload_n 1, 1) := by decide +kernel
theorem dX4_learnApart_12 : decode cX4_learnApart 12 = .ok (.iload 4, 2) := by decide +kernel
theorem dX4_learnApart_14 : decode cX4_learnApart 14 = .ok (.iadd, 1) := by decide +kernel
theorem dX4_learnApart_15 : decode cX4_learnApart 15 = .ok (.iconst 0, 1) := by decide +kernel
theorem dX4_learnApart_16 : decode cX4_learnApart 16 = .ok (.iastore, 1) := by decide +kernel
theorem dX4_learnApart_17 : decode cX4_learnApart 17 = .ok (.iinc 4 1, 3) := by decide +kernel
theorem dX4_learnApart_20 : decode cX4_learnApart 20 = .ok (.goto (-17), 3) := by decide +kernel
theorem dX4_learnApart_23 : decode cX4_learnApart 23 = .ok (.iconst 0, 1) := by decide +kernel
theorem dX4_learnApart_24 : decode cX4_learnApart 24 = .ok (.istore 4, 2) := by decide +kernel
theorem dX4_learnApart_26 : decode cX4_learnApart 26 = .ok (.iload 4, 2) := by decide +kernel
theorem dX4_learnApart_28 : decode cX4_learnApart 28 = .ok (.bipush 9, 2) := by decide +kernel
theorem dX4_learnApart_30 : decode cX4_learnApart 30 = .ok (.if_icmp .ge 64, 3) := by decide +kernel
theorem dX4_learnApart_33 : decode cX4_learnApart 33 = .ok (.iconst 0, 1) := by decide +kernel
theorem dX4_learnApart_34 : decode cX4_learnApart 34 = .ok (.istore 5, 2) := by decide +kernel
theorem dX4_learnApart_36 : decode cX4_learnApart 36 = .ok (.iload 5, 2) := by decide +kernel
theorem dX4_learnApart_38 : decode cX4_learnApart 38 = .ok (.bipush 9, 2) := by decide +kernel
theorem dX4_learnApart_40 : decode cX4_learnApart 40 = .ok (.if_icmp .ge 48, 3) := by decide +kernel
theorem dX4_learnApart_43 : decode cX4_learnApart 43 = .ok (.iload_n 2, 1) := by decide +kernel
theorem dX4_learnApart_44 : decode cX4_learnApart 44 = .ok (.iload 4, 2) := by decide +kernel
theorem dX4_learnApart_46 : decode cX4_learnApart 46 = .ok (.iushr, 1) := by decide +kernel
theorem dX4_learnApart_47 : decode cX4_learnApart 47 = .ok (.iconst 1, 1) := by decide +kernel
theorem dX4_learnApart_48 : decode cX4_learnApart 48 = .ok (.iand, 1) := by decide +kernel
theorem dX4_learnApart_49 : decode cX4_learnApart 49 = .ok (.iconst 1, 1) := by decide +kernel
theorem dX4_learnApart_50 : decode cX4_learnApart 50 = .ok (.if_icmp .ne 38, 3) := by decide +kernel
theorem dX4_learnApart_53 : decode cX4_learnApart 53 = .ok (.aload_n 0, 1) := by decide +kernel
theorem dX4_learnApart_54 : decode cX4_learnApart 54 = .ok (.iload_n 1, 1) := by decide +kernel
theorem dX4_learnApart_55 : decode cX4_learnApart 55 = .ok (.bipush 12, 2) := by decide +kernel
theorem dX4_learnApart_57 : decode cX4_learnApart 57 = .ok (.iadd, 1) := by decide +kernel
theorem dX4_learnApart_58 : decode cX4_learnApart 58 = .ok (.getstatic 89, 3) := by decide +kernel
theorem dX4_learnApart_61 : decode cX4_learnApart 61 = .ok (.iload 4, 2) := by decide +kernel
theorem dX4_learnApart_63 : decode cX4_learnApart 63 = .ok (.iaload, 1) := by decide +kernel
theorem dX4_learnApart_64 : decode cX4_learnApart 64 = .ok (.iadd, 1) := by decide +kernel
theorem dX4_learnApart_65 : decode cX4_learnApart 65 = .ok (.getstatic 89, 3) := by decide +kernel
theorem dX4_learnApart_68 : decode cX4_learnApart 68 = .ok (.iload 5, 2) := by decide +kernel
theorem dX4_learnApart_70 : decode cX4_learnApart 70 = .ok (.iaload, 1) := by decide +kernel
theorem dX4_learnApart_71 : decode cX4_learnApart 71 = .ok (.isub, 1) := by decide +kernel
theorem dX4_learnApart_72 : decode cX4_learnApart 72 = .ok (.dup2, 1) := by decide +kernel
theorem dX4_learnApart_73 : decode cX4_learnApart 73 = .ok (.iaload, 1) := by decide +kernel
theorem dX4_learnApart_74 : decode cX4_learnApart 74 = .ok (.iload_n 3, 1) := by decide +kernel
theorem dX4_learnApart_75 : decode cX4_learnApart 75 = .ok (.iload 5, 2) := by decide +kernel
theorem dX4_learnApart_77 : decode cX4_learnApart 77 = .ok (.iushr, 1) := by decide +kernel
theorem dX4_learnApart_78 : decode cX4_learnApart 78 = .ok (.iconst 1, 1) := by decide +kernel
theorem dX4_learnApart_79 : decode cX4_learnApart 79 = .ok (.iand, 1) := by decide +kernel
theorem dX4_learnApart_80 : decode cX4_learnApart 80 = .ok (.iadd, 1) := by decide +kernel
theorem dX4_learnApart_81 : decode cX4_learnApart 81 = .ok (.iastore, 1) := by decide +kernel
theorem dX4_learnApart_82 : decode cX4_learnApart 82 = .ok (.iinc 5 1, 3) := by decide +kernel
theorem dX4_learnApart_85 : decode cX4_learnApart 85 = .ok (.goto (-49), 3) := by decide +kernel
theorem dX4_learnApart_88 : decode cX4_learnApart 88 = .ok (.iinc 4 1, 3) := by decide +kernel
theorem dX4_learnApart_91 : decode cX4_learnApart 91 = .ok (.goto (-65), 3) := by decide +kernel
theorem dX4_learnApart_94 : decode cX4_learnApart 94 = .ok (.bipush 9, 2) := by decide +kernel
theorem dX4_learnApart_96 : decode cX4_learnApart 96 = .ok (.istore 4, 2) := by decide +kernel
theorem dX4_learnApart_98 : decode cX4_learnApart 98 = .ok (.iconst 0, 1) := by decide +kernel
theorem dX4_learnApart_99 : decode cX4_learnApart 99 = .ok (.istore 5, 2) := by decide +kernel
theorem dX4_learnApart_101 : decode cX4_learnApart 101 = .ok (.iload 5, 2) := by decide +kernel
theorem dX4_learnApart_103 : decode cX4_learnApart 103 = .ok (.bipush 25, 2) := by decide +kernel
theorem dX4_learnApart_105 : decode cX4_learnApart 105 = .ok (.if_icmp .ge 33, 3) := by decide +kernel
theorem dX4_learnApart_108 : decode cX4_learnApart 108 = .ok (.aload_n 0, 1) := by decide +kernel
theorem dX4_learnApart_109 : decode cX4_learnApart 109 = .ok (.iload_n 1, 1) := by decide +kernel
theorem dX4_learnApart_110 : decode cX4_learnApart 110 = .ok (.iload 5, 2) := by decide +kernel
theorem dX4_learnApart_112 : decode cX4_learnApart 112 = .ok (.iadd, 1) := by decide +kernel
theorem dX4_learnApart_113 : decode cX4_learnApart 113 = .ok (.iaload, 1) := by decide +kernel
theorem dX4_learnApart_114 : decode cX4_learnApart 114 = .ok (.iload 4, 2) := by decide +kernel
theorem dX4_learnApart_116 : decode cX4_learnApart 116 = .ok (.if_icmp .ge 12, 3) := by decide +kernel
theorem dX4_learnApart_119 : decode cX4_learnApart 119 = .ok (.aload_n 0, 1) := by decide +kernel
theorem dX4_learnApart_120 : decode cX4_learnApart 120 = .ok (.iload_n 1, 1) := by decide +kernel
theorem dX4_learnApart_121 : decode cX4_learnApart 121 = .ok (.iload 5, 2) := by decide +kernel
theorem dX4_learnApart_123 : decode cX4_learnApart 123 = .ok (.iadd, 1) := by decide +kernel
theorem dX4_learnApart_124 : decode cX4_learnApart 124 = .ok (.iaload, 1) := by decide +kernel
theorem dX4_learnApart_125 : decode cX4_learnApart 125 = .ok (.goto 5, 3) := by decide +kernel
theorem dX4_learnApart_128 : decode cX4_learnApart 128 = .ok (.iload 4, 2) := by decide +kernel
theorem dX4_learnApart_130 : decode cX4_learnApart 130 = .ok (.istore 4, 2) := by decide +kernel
theorem dX4_learnApart_132 : decode cX4_learnApart 132 = .ok (.iinc 5 1, 3) := by decide +kernel
theorem dX4_learnApart_135 : decode cX4_learnApart 135 = .ok (.goto (-34), 3) := by decide +kernel
theorem dX4_learnApart_138 : decode cX4_learnApart 138 = .ok (.iload 4, 2) := by decide +kernel
theorem dX4_learnApart_140 : decode cX4_learnApart 140 = .ok (.ireturn, 1) := by decide +kernel
def f_X4_learnApart_130 (kb_101 : Nat → Int32 → Int32 → Int32 → zS → Option (Int32 × zS)) (v0 : Nat) (v1 : Int32) (v5 : Int32) (w0 : Int32) (s : zS) : Option (Int32 × zS) :=
  zb (v5 + (1 : Int32)) fun x1 =>
  kb_101 v0 v1 w0 x1 s
set_option maxRecDepth 20000 in
theorem b_X4_learnApart_130 {X : zX} {kb_101 : Nat → Int32 → Int32 → Int32 → zS → Option (Int32 × zS)} (hX : zx_ok X cX4_learnApart RX4 6) (hT : zx_rt X (some .int) (zR 0 0)) (hk_101 : ∀ (v0 : Nat) (v1 : Int32) (v4 : Int32) (v5 : Int32) (s : zS), zV X (zq X zrI) 6 101 [(0, .ref (zx_ad X v0)), (1, .int v1), (4, .int v4), (5, .int v5)] [] s (kb_101 v0 v1 v4 v5 s)) : ∀ (v0 : Nat) (v1 : Int32) (v5 : Int32) (w0 : Int32) (s : zS), zV X (zq X zrI) 6 130 [(0, .ref (zx_ad X v0)), (1, .int v1), (5, .int v5)] [.int w0] s (f_X4_learnApart_130 kb_101 v0 v1 v5 w0 s) := by
  intro v0 v1 v5 w0 s
  unfold f_X4_learnApart_130
  refine zv_istore (lv' := [(4, .int w0), (0, .ref (zx_ad X v0)), (1, .int v1), (5, .int v5)]) hX dX4_learnApart_130 (by decide) rfl ?_
  refine zv_iincB (lw := fun x1 => [(5, .int x1), (4, .int w0), (0, .ref (zx_ad X v0)), (1, .int v1)]) hX dX4_learnApart_132 3 rfl zi_i_1 (by decide) (fun _ => rfl) (fun x1 => ?_)
  refine zv_goto (tgt := 101) hX dX4_learnApart_135 rfl ?_
  exact zv_sub [2, 3, 1, 0] rfl (hk_101 v0 v1 w0 x1 s)
def f_X4_learnApart_101 : Nat → Nat → Int32 → Int32 → Int32 → zS → Option (Int32 × zS)
  | 0, _, _, _, _, _ => none
  | n + 1, v0, v1, v4, v5, s =>
    if (nI 25) ≤ v5 then
    (some (v4, s))
    else
    (zr_i s v0 (v1 + v5)).bind fun x2 =>
    if v4 ≤ x2 then
    (f_X4_learnApart_130 (f_X4_learnApart_101 n) v0 v1 v5 v4 s)
    else
    (zr_i s v0 (v1 + v5)).bind fun x3 =>
    f_X4_learnApart_130 (f_X4_learnApart_101 n) v0 v1 v5 x3 s
set_option maxRecDepth 20000 in
theorem b_X4_learnApart_101 {X : zX} (hX : zx_ok X cX4_learnApart RX4 6) (hT : zx_rt X (some .int) (zR 0 0)) : ∀ (n : Nat) (v0 : Nat) (v1 : Int32) (v4 : Int32) (v5 : Int32) (s : zS), zV X (zq X zrI) 6 101 [(0, .ref (zx_ad X v0)), (1, .int v1), (4, .int v4), (5, .int v5)] [] s (f_X4_learnApart_101 n v0 v1 v4 v5 s) := by
  intro n
  induction n with
  | zero => intro v0 v1 v4 v5 s; exact zv_none
  | succ n ih =>
    intro v0 v1 v4 v5 s
    rw [f_X4_learnApart_101]
    refine zv_iload hX dX4_learnApart_101 3 rfl ?_
    refine zv_bipush (v := (nI 25)) hX dX4_learnApart_103 zi_b_25 ?_
    refine zv_icmp_ge (tgt := 138) hX dX4_learnApart_105 rfl ?_ ?_
    · refine zv_iload hX dX4_learnApart_138 2 rfl ?_
      exact zv_ireti hX hT dX4_learnApart_140
    · refine zv_aload_n hX dX4_learnApart_108 0 rfl ?_
      refine zv_iload_n hX dX4_learnApart_109 1 rfl ?_
      refine zv_iload hX dX4_learnApart_110 3 rfl ?_
      refine zv_iadd hX dX4_learnApart_112 ?_
      refine zv_iald hX dX4_learnApart_113 (fun x2 => ?_)
      refine zv_iload hX dX4_learnApart_114 2 rfl ?_
      refine zv_icmp_ge (tgt := 128) hX dX4_learnApart_116 rfl ?_ ?_
      · refine zv_iload hX dX4_learnApart_128 2 rfl ?_
        exact zv_sub [0, 1, 3] rfl (b_X4_learnApart_130 hX hT ih v0 v1 v5 v4 s)
      · refine zv_aload_n hX dX4_learnApart_119 0 rfl ?_
        refine zv_iload_n hX dX4_learnApart_120 1 rfl ?_
        refine zv_iload hX dX4_learnApart_121 3 rfl ?_
        refine zv_iadd hX dX4_learnApart_123 ?_
        refine zv_iald hX dX4_learnApart_124 (fun x3 => ?_)
        refine zv_goto (tgt := 130) hX dX4_learnApart_125 rfl ?_
        exact zv_sub [0, 1, 3] rfl (b_X4_learnApart_130 hX hT ih v0 v1 v5 x3 s)
def f_X4_learnApart_88 (kb_26 : Nat → Int32 → Int32 → Int32 → Int32 → zS → Option (Int32 × zS)) (v0 : Nat) (v1 : Int32) (v2 : Int32) (v3 : Int32) (v4 : Int32) (s : zS) : Option (Int32 × zS) :=
  zb (v4 + (1 : Int32)) fun x4 =>
  kb_26 v0 v1 v2 v3 x4 s
set_option maxRecDepth 20000 in
theorem b_X4_learnApart_88 {X : zX} {kb_26 : Nat → Int32 → Int32 → Int32 → Int32 → zS → Option (Int32 × zS)} (hX : zx_ok X cX4_learnApart RX4 6) (hT : zx_rt X (some .int) (zR 0 0)) (hk_26 : ∀ (v0 : Nat) (v1 : Int32) (v2 : Int32) (v3 : Int32) (v4 : Int32) (s : zS), zV X (zq X zrI) 6 26 [(0, .ref (zx_ad X v0)), (1, .int v1), (2, .int v2), (3, .int v3), (4, .int v4)] [] s (kb_26 v0 v1 v2 v3 v4 s)) : ∀ (v0 : Nat) (v1 : Int32) (v2 : Int32) (v3 : Int32) (v4 : Int32) (s : zS), zV X (zq X zrI) 6 88 [(0, .ref (zx_ad X v0)), (1, .int v1), (2, .int v2), (3, .int v3), (4, .int v4)] [] s (f_X4_learnApart_88 kb_26 v0 v1 v2 v3 v4 s) := by
  intro v0 v1 v2 v3 v4 s
  unfold f_X4_learnApart_88
  refine zv_iincB (lw := fun x4 => [(4, .int x4), (0, .ref (zx_ad X v0)), (1, .int v1), (2, .int v2), (3, .int v3)]) hX dX4_learnApart_88 4 rfl zi_i_1 (by decide) (fun _ => rfl) (fun x4 => ?_)
  refine zv_goto (tgt := 26) hX dX4_learnApart_91 rfl ?_
  exact zv_sub [1, 2, 3, 4, 0] rfl (hk_26 v0 v1 v2 v3 x4 s)
def f_X4_learnApart_36 (kb_26 : Nat → Int32 → Int32 → Int32 → Int32 → zS → Option (Int32 × zS)) : Nat → Nat → Int32 → Int32 → Int32 → Int32 → Int32 → zS → Option (Int32 × zS)
  | 0, _, _, _, _, _, _, _ => none
  | n + 1, v0, v1, v2, v3, v4, v5, s =>
    if (nI 9) ≤ v5 then
    (f_X4_learnApart_88 kb_26 v0 v1 v2 v3 v4 s)
    else
    if ¬ ((zo_ush v2 v4) &&& (1 : Int32)) = (1 : Int32) then
    (f_X4_learnApart_88 kb_26 v0 v1 v2 v3 v4 s)
    else
    (zr_t 1 v4).bind fun x5 =>
    (zr_t 1 v5).bind fun x6 =>
    (zr_i s v0 (((v1 + (nI 12)) + x5) - x6)).bind fun x7 =>
    (zw_i s v0 (((v1 + (nI 12)) + x5) - x6) (x7 + ((zo_ush v3 v5) &&& (1 : Int32)))).bind fun s8 =>
    zb (v5 + (1 : Int32)) fun x9 =>
    f_X4_learnApart_36 kb_26 n v0 v1 v2 v3 v4 x9 s8
set_option maxRecDepth 20000 in
theorem b_X4_learnApart_36 {X : zX} {kb_26 : Nat → Int32 → Int32 → Int32 → Int32 → zS → Option (Int32 × zS)} (hX : zx_ok X cX4_learnApart RX4 6) (hT : zx_rt X (some .int) (zR 0 0)) (hk_26 : ∀ (v0 : Nat) (v1 : Int32) (v2 : Int32) (v3 : Int32) (v4 : Int32) (s : zS), zV X (zq X zrI) 6 26 [(0, .ref (zx_ad X v0)), (1, .int v1), (2, .int v2), (3, .int v3), (4, .int v4)] [] s (kb_26 v0 v1 v2 v3 v4 s)) : ∀ (n : Nat) (v0 : Nat) (v1 : Int32) (v2 : Int32) (v3 : Int32) (v4 : Int32) (v5 : Int32) (s : zS), zV X (zq X zrI) 6 36 [(0, .ref (zx_ad X v0)), (1, .int v1), (2, .int v2), (3, .int v3), (4, .int v4), (5, .int v5)] [] s (f_X4_learnApart_36 kb_26 n v0 v1 v2 v3 v4 v5 s) := by
  intro n
  induction n with
  | zero => intro v0 v1 v2 v3 v4 v5 s; exact zv_none
  | succ n ih =>
    intro v0 v1 v2 v3 v4 v5 s
    rw [f_X4_learnApart_36]
    refine zv_iload hX dX4_learnApart_36 5 rfl ?_
    refine zv_bipush (v := (nI 9)) hX dX4_learnApart_38 zi_b_9 ?_
    refine zv_icmp_ge (tgt := 88) hX dX4_learnApart_40 rfl ?_ ?_
    · exact zv_sub [0, 1, 2, 3, 4] rfl (b_X4_learnApart_88 hX hT hk_26 v0 v1 v2 v3 v4 s)
    · refine zv_iload_n hX dX4_learnApart_43 2 rfl ?_
      refine zv_iload hX dX4_learnApart_44 4 rfl ?_
      refine zv_iushr hX dX4_learnApart_46 ?_
      refine zv_iconst (v := (1 : Int32)) hX dX4_learnApart_47 zi_i_1 ?_
      refine zv_iand hX dX4_learnApart_48 ?_
      refine zv_iconst (v := (1 : Int32)) hX dX4_learnApart_49 zi_i_1 ?_
      refine zv_icmp_ne (tgt := 88) hX dX4_learnApart_50 rfl ?_ ?_
      · exact zv_sub [0, 1, 2, 3, 4] rfl (b_X4_learnApart_88 hX hT hk_26 v0 v1 v2 v3 v4 s)
      · refine zv_aload_n hX dX4_learnApart_53 0 rfl ?_
        refine zv_iload_n hX dX4_learnApart_54 1 rfl ?_
        refine zv_bipush (v := (nI 12)) hX dX4_learnApart_55 zi_b_12 ?_
        refine zv_iadd hX dX4_learnApart_57 ?_
        refine zv_gsP hX dX4_learnApart_58 ?_
        refine zv_iload hX dX4_learnApart_61 4 rfl ?_
        refine zv_taldP hX dX4_learnApart_63 (fun x5 => ?_)
        refine zv_iadd hX dX4_learnApart_64 ?_
        refine zv_gsP hX dX4_learnApart_65 ?_
        refine zv_iload hX dX4_learnApart_68 5 rfl ?_
        refine zv_taldP hX dX4_learnApart_70 (fun x6 => ?_)
        refine zv_isub hX dX4_learnApart_71 ?_
        refine zv_dup2 hX dX4_learnApart_72 rfl rfl ?_
        refine zv_iald hX dX4_learnApart_73 (fun x7 => ?_)
        refine zv_iload_n hX dX4_learnApart_74 3 rfl ?_
        refine zv_iload hX dX4_learnApart_75 5 rfl ?_
        refine zv_iushr hX dX4_learnApart_77 ?_
        refine zv_iconst (v := (1 : Int32)) hX dX4_learnApart_78 zi_i_1 ?_
        refine zv_iand hX dX4_learnApart_79 ?_
        refine zv_iadd hX dX4_learnApart_80 ?_
        refine zv_iast hX dX4_learnApart_81 (fun s8 => ?_)
        refine zv_iincB (lw := fun x9 => [(5, .int x9), (0, .ref (zx_ad X v0)), (1, .int v1), (2, .int v2), (3, .int v3), (4, .int v4)]) hX dX4_learnApart_82 5 rfl zi_i_1 (by decide) (fun _ => rfl) (fun x9 => ?_)
        refine zv_goto (tgt := 36) hX dX4_learnApart_85 rfl ?_
        exact zv_sub [1, 2, 3, 4, 5, 0] rfl (ih v0 v1 v2 v3 v4 x9 s8)
def f_X4_learnApart_26 : Nat → Nat → Int32 → Int32 → Int32 → Int32 → zS → Option (Int32 × zS)
  | 0, _, _, _, _, _, _ => none
  | n + 1, v0, v1, v2, v3, v4, s =>
    if (nI 9) ≤ v4 then
    (f_X4_learnApart_101 zFU v0 v1 (nI 9) (0 : Int32) s)
    else
    f_X4_learnApart_36 (f_X4_learnApart_26 n) zFU v0 v1 v2 v3 v4 (0 : Int32) s
set_option maxRecDepth 20000 in
theorem b_X4_learnApart_26 {X : zX} (hX : zx_ok X cX4_learnApart RX4 6) (hT : zx_rt X (some .int) (zR 0 0)) : ∀ (n : Nat) (v0 : Nat) (v1 : Int32) (v2 : Int32) (v3 : Int32) (v4 : Int32) (s : zS), zV X (zq X zrI) 6 26 [(0, .ref (zx_ad X v0)), (1, .int v1), (2, .int v2), (3, .int v3), (4, .int v4)] [] s (f_X4_learnApart_26 n v0 v1 v2 v3 v4 s) := by
  intro n
  induction n with
  | zero => intro v0 v1 v2 v3 v4 s; exact zv_none
  | succ n ih =>
    intro v0 v1 v2 v3 v4 s
    rw [f_X4_learnApart_26]
    refine zv_iload hX dX4_learnApart_26 4 rfl ?_
    refine zv_bipush (v := (nI 9)) hX dX4_learnApart_28 zi_b_9 ?_
    refine zv_icmp_ge (tgt := 94) hX dX4_learnApart_30 rfl ?_ ?_
    · refine zv_bipush (v := (nI 9)) hX dX4_learnApart_94 zi_b_9 ?_
      refine zv_istore (lv' := [(4, .int (nI 9)), (0, .ref (zx_ad X v0)), (1, .int v1), (2, .int v2), (3, .int v3)]) hX dX4_learnApart_96 (by decide) rfl ?_
      refine zv_iconst (v := (0 : Int32)) hX dX4_learnApart_98 zi_i_0 ?_
      refine zv_istore (lv' := [(5, .int (0 : Int32)), (4, .int (nI 9)), (0, .ref (zx_ad X v0)), (1, .int v1), (2, .int v2), (3, .int v3)]) hX dX4_learnApart_99 (by decide) rfl ?_
      exact zv_sub [2, 3, 1, 0] rfl (b_X4_learnApart_101 hX hT zFU v0 v1 (nI 9) (0 : Int32) s)
    · refine zv_iconst (v := (0 : Int32)) hX dX4_learnApart_33 zi_i_0 ?_
      refine zv_istore (lv' := [(5, .int (0 : Int32)), (0, .ref (zx_ad X v0)), (1, .int v1), (2, .int v2), (3, .int v3), (4, .int v4)]) hX dX4_learnApart_34 (by decide) rfl ?_
      exact zv_sub [1, 2, 3, 4, 5, 0] rfl (b_X4_learnApart_36 hX hT ih zFU v0 v1 v2 v3 v4 (0 : Int32) s)
def f_X4_learnApart_3 : Nat → Nat → Int32 → Int32 → Int32 → Int32 → zS → Option (Int32 × zS)
  | 0, _, _, _, _, _, _ => none
  | n + 1, v0, v1, v2, v3, v4, s =>
    if (nI 25) ≤ v4 then
    (f_X4_learnApart_26 zFU v0 v1 v2 v3 (0 : Int32) s)
    else
    (zw_i s v0 (v1 + v4) (0 : Int32)).bind fun s10 =>
    zb (v4 + (1 : Int32)) fun x11 =>
    f_X4_learnApart_3 n v0 v1 v2 v3 x11 s10
set_option maxRecDepth 20000 in
theorem b_X4_learnApart_3 {X : zX} (hX : zx_ok X cX4_learnApart RX4 6) (hT : zx_rt X (some .int) (zR 0 0)) : ∀ (n : Nat) (v0 : Nat) (v1 : Int32) (v2 : Int32) (v3 : Int32) (v4 : Int32) (s : zS), zV X (zq X zrI) 6 3 [(0, .ref (zx_ad X v0)), (1, .int v1), (2, .int v2), (3, .int v3), (4, .int v4)] [] s (f_X4_learnApart_3 n v0 v1 v2 v3 v4 s) := by
  intro n
  induction n with
  | zero => intro v0 v1 v2 v3 v4 s; exact zv_none
  | succ n ih =>
    intro v0 v1 v2 v3 v4 s
    rw [f_X4_learnApart_3]
    refine zv_iload hX dX4_learnApart_3 4 rfl ?_
    refine zv_bipush (v := (nI 25)) hX dX4_learnApart_5 zi_b_25 ?_
    refine zv_icmp_ge (tgt := 23) hX dX4_learnApart_7 rfl ?_ ?_
    · refine zv_iconst (v := (0 : Int32)) hX dX4_learnApart_23 zi_i_0 ?_
      refine zv_istore (lv' := [(4, .int (0 : Int32)), (0, .ref (zx_ad X v0)), (1, .int v1), (2, .int v2), (3, .int v3)]) hX dX4_learnApart_24 (by decide) rfl ?_
      exact zv_sub [1, 2, 3, 4, 0] rfl (b_X4_learnApart_26 hX hT zFU v0 v1 v2 v3 (0 : Int32) s)
    · refine zv_aload_n hX dX4_learnApart_10 0 rfl ?_
      refine zv_iload_n hX dX4_learnApart_11 1 rfl ?_
      refine zv_iload hX dX4_learnApart_12 4 rfl ?_
      refine zv_iadd hX dX4_learnApart_14 ?_
      refine zv_iconst (v := (0 : Int32)) hX dX4_learnApart_15 zi_i_0 ?_
      refine zv_iast hX dX4_learnApart_16 (fun s10 => ?_)
      refine zv_iincB (lw := fun x11 => [(4, .int x11), (0, .ref (zx_ad X v0)), (1, .int v1), (2, .int v2), (3, .int v3)]) hX dX4_learnApart_17 4 rfl zi_i_1 (by decide) (fun _ => rfl) (fun x11 => ?_)
      refine zv_goto (tgt := 3) hX dX4_learnApart_20 rfl ?_
      exact zv_sub [1, 2, 3, 4, 0] rfl (ih v0 v1 v2 v3 x11 s10)
def f_X4_learnApart (v0 : Nat) (v1 : Int32) (v2 : Int32) (v3 : Int32) (s : zS) : Option (Int32 × zS) :=
  f_X4_learnApart_3 zFU v0 v1 v2 v3 (0 : Int32) s
set_option maxRecDepth 20000 in
theorem c_X4_learnApart (Y : zG) (v0 : Nat) (v1 : Int32) (v2 : Int32) (v3 : Int32) (s : zS) : zM Y yX4_learnApart cX4_learnApart 6 (some .int) (zR 0 0) [.ref (zy_a Y v0), .int v1, .int v2, .int v3] s zrI (f_X4_learnApart v0 v1 v2 v3 s) := by
  refine zm_start (by decide +kernel) (Nat.le_of_ble_eq_true rfl) ?_
  intro X hY hT hX
  subst hY
  have hX : zx_ok X cX4_learnApart RX4 6 := hX
  show zV X (zq X zrI) 6 0 [(0, .ref (zx_ad X v0)), (1, .int v1), (2, .int v2), (3, .int v3)] [] s _
  unfold f_X4_learnApart
  refine zv_iconst (v := (0 : Int32)) hX dX4_learnApart_0 zi_i_0 ?_
  refine zv_istore (lv' := [(4, .int (0 : Int32)), (0, .ref (zx_ad X v0)), (1, .int v1), (2, .int v2), (3, .int v3)]) hX dX4_learnApart_1 (by decide) rfl ?_
  exact zv_sub [1, 2, 3, 4, 0] rfl (b_X4_learnApart_3 hX hT zFU v0 v1 v2 v3 (0 : Int32) s)
theorem dJ9_max_7cf53_0 : decode cJ9_max_7cf53 0 = .ok (.iload_n 0, 1) := by decide +kernel
theorem dJ9_max_7cf53_1 : decode cJ9_max_7cf53 1 = .ok (.iload_n 1, 1) := by decide +kernel
theorem dJ9_max_7cf53_2 : decode cJ9_max_7cf53 2 = .ok (.if_icmp .lt 7, 3) := by decide +kernel
theorem dJ9_max_7cf53_5 : decode cJ9_max_7cf53 5 = .ok (.iload_n 0, 1) := by decide +kernel
theorem dJ9_max_7cf53_6 : decode cJ9_max_7cf53 6 = .ok (.goto 4, 3) := by decide +kernel
theorem dJ9_max_7cf53_9 : decode cJ9_max_7cf53 9 = .ok (.iload_n 1, 1) := by decide +kernel
theorem dJ9_max_7cf53_10 : decode cJ9_max_7cf53 10 = .ok (.ireturn, 1) := by decide +kernel
def f_J9_max_7cf53_10 (w0 : Int32) (s : zS) : Option (Int32 × zS) :=
  some (w0, s)
set_option maxRecDepth 20000 in
theorem b_J9_max_7cf53_10 {X : zX} (hX : zx_ok X cJ9_max_7cf53 RJ9 2) (hT : zx_rt X (some .int) (zR 0 0)) : ∀ (w0 : Int32) (s : zS), zV X (zq X zrI) 2 10 [] [.int w0] s (f_J9_max_7cf53_10 w0 s) := by
  intro w0 s
  unfold f_J9_max_7cf53_10
  exact zv_ireti hX hT dJ9_max_7cf53_10
def f_J9_max_7cf53 (v0 : Int32) (v1 : Int32) (s : zS) : Option (Int32 × zS) :=
  if v0 < v1 then
  (f_J9_max_7cf53_10 v1 s)
  else
  f_J9_max_7cf53_10 v0 s
set_option maxRecDepth 20000 in
theorem c_J9_max_7cf53 (Y : zG) (v0 : Int32) (v1 : Int32) (s : zS) : zM Y yJ9_max_7cf53 cJ9_max_7cf53 2 (some .int) (zR 0 0) [.int v0, .int v1] s zrI (f_J9_max_7cf53 v0 v1 s) := by
  refine zm_startJ (by decide +kernel) (Nat.le_of_ble_eq_true rfl) ?_
  intro X hY hT hX
  subst hY
  have hX : zx_ok X cJ9_max_7cf53 RJ9 2 := hX
  show zV X (zq X zrI) 2 0 [(0, .int v0), (1, .int v1)] [] s _
  unfold f_J9_max_7cf53
  refine zv_iload_n hX dJ9_max_7cf53_0 0 rfl ?_
  refine zv_iload_n hX dJ9_max_7cf53_1 1 rfl ?_
  refine zv_icmp_lt (tgt := 9) hX dJ9_max_7cf53_2 rfl ?_ ?_
  · refine zv_iload_n hX dJ9_max_7cf53_9 1 rfl ?_
    exact zv_sub [] rfl (b_J9_max_7cf53_10 hX hT v1 s)
  · refine zv_iload_n hX dJ9_max_7cf53_5 0 rfl ?_
    refine zv_goto (tgt := 10) hX dJ9_max_7cf53_6 rfl ?_
    exact zv_sub [] rfl (b_J9_max_7cf53_10 hX hT v0 s)
theorem dJ9_min_7cf53_0 : decode cJ9_min_7cf53 0 = .ok (.iload_n 0, 1) := by decide +kernel
theorem dJ9_min_7cf53_1 : decode cJ9_min_7cf53 1 = .ok (.iload_n 1, 1) := by decide +kernel
theorem dJ9_min_7cf53_2 : decode cJ9_min_7cf53 2 = .ok (.if_icmp .gt 7, 3) := by decide +kernel
theorem dJ9_min_7cf53_5 : decode cJ9_min_7cf53 5 = .ok (.iload_n 0, 1) := by decide +kernel
theorem dJ9_min_7cf53_6 : decode cJ9_min_7cf53 6 = .ok (.goto 4, 3) := by decide +kernel
theorem dJ9_min_7cf53_9 : decode cJ9_min_7cf53 9 = .ok (.iload_n 1, 1) := by decide +kernel
theorem dJ9_min_7cf53_10 : decode cJ9_min_7cf53 10 = .ok (.ireturn, 1) := by decide +kernel
def f_J9_min_7cf53_10 (w0 : Int32) (s : zS) : Option (Int32 × zS) :=
  some (w0, s)
set_option maxRecDepth 20000 in
theorem b_J9_min_7cf53_10 {X : zX} (hX : zx_ok X cJ9_min_7cf53 RJ9 2) (hT : zx_rt X (some .int) (zR 0 0)) : ∀ (w0 : Int32) (s : zS), zV X (zq X zrI) 2 10 [] [.int w0] s (f_J9_min_7cf53_10 w0 s) := by
  intro w0 s
  unfold f_J9_min_7cf53_10
  exact zv_ireti hX hT dJ9_min_7cf53_10
def f_J9_min_7cf53 (v0 : Int32) (v1 : Int32) (s : zS) : Option (Int32 × zS) :=
  if v1 < v0 then
  (f_J9_min_7cf53_10 v1 s)
  else
  f_J9_min_7cf53_10 v0 s
set_option maxRecDepth 20000 in
theorem c_J9_min_7cf53 (Y : zG) (v0 : Int32) (v1 : Int32) (s : zS) : zM Y yJ9_min_7cf53 cJ9_min_7cf53 2 (some .int) (zR 0 0) [.int v0, .int v1] s zrI (f_J9_min_7cf53 v0 v1 s) := by
  refine zm_startJ (by decide +kernel) (Nat.le_of_ble_eq_true rfl) ?_
  intro X hY hT hX
  subst hY
  have hX : zx_ok X cJ9_min_7cf53 RJ9 2 := hX
  show zV X (zq X zrI) 2 0 [(0, .int v0), (1, .int v1)] [] s _
  unfold f_J9_min_7cf53
  refine zv_iload_n hX dJ9_min_7cf53_0 0 rfl ?_
  refine zv_iload_n hX dJ9_min_7cf53_1 1 rfl ?_
  refine zv_icmp_gt (tgt := 9) hX dJ9_min_7cf53_2 rfl ?_ ?_
  · refine zv_iload_n hX dJ9_min_7cf53_9 1 rfl ?_
    exact zv_sub [] rfl (b_J9_min_7cf53_10 hX hT v1 s)
  · refine zv_iload_n hX dJ9_min_7cf53_5 0 rfl ?_
    refine zv_goto (tgt := 10) hX dJ9_min_7cf53_6 rfl ?_
    exact zv_sub [] rfl (b_J9_min_7cf53_10 hX hT v0 s)
