theorem dX3_isName_0 : decode cX3_isName 0 = .ok (.iload_n 1, 1) := by decide +kernel
theorem dX3_isName_1 : decode cX3_isName 1 = .ok (.sipush 1210, 3) := by decide +kernel
theorem dX3_isName_4 : decode cX3_isName 4 = .ok (.if_icmp .eq 10, 3) := by decide +kernel
theorem dX3_isName_7 : decode cX3_isName 7 = .ok (.iload_n 1, 1) := by decide +kernel
theorem dX3_isName_8 : decode cX3_isName 8 = .ok (.sipush 1211, 3) := by decide +kernel
theorem dX3_isName_11 : decode cX3_isName 11 = .ok (.if_icmp .ne 5, 3) := by decide +kernel
theorem dX3_isName_14 : decode cX3_isName 14 = .ok (.iconst 1, 1) := by decide +kernel
theorem dX3_isName_15 : decode cX3_isName 15 = .ok (.ireturn, 1) := by decide +kernel
theorem dX3_isName_16 : decode cX3_isName 16 = .ok (.aload_n 0, 1) := by decide +kernel
theorem dX3_isName_17 : decode cX3_isName 17 = .ok (.getfield 109, 3) := by decide +kernel
theorem dX3_isName_20 : decode cX3_isName 20 = .ok (.ifCond .eq 25, 3) := by decide +kernel
theorem dX3_isName_23 : decode cX3_isName 23 = .ok (.iload_n 1, 1) := by decide +kernel
theorem dX3_isName_24 : decode cX3_isName 24 = .ok (.sipush 1213, 3) := by decide +kernel
theorem dX3_isName_27 : decode cX3_isName 27 = .ok (.if_icmp .lt 14, 3) := by decide +kernel
theorem dX3_isName_30 : decode cX3_isName 30 = .ok (.iload_n 1, 1) := by decide +kernel
theorem dX3_isName_31 : decode cX3_isName 31 = .ok (.sipush 1216, 3) := by decide +kernel
theorem dX3_isName_34 : decode cX3_isName 34 = .ok (.if_icmp .gt 7, 3) := by decide +kernel
theorem dX3_isName_37 : decode cX3_isName 37 = .ok (.iconst 1, 1) := by decide +kernel
theorem dX3_isName_38 : decode cX3_isName 38 = .ok (.goto 19, 3) := by decide +kernel
theorem dX3_isName_41 : decode cX3_isName 41 = .ok (.iconst 0, 1) := by decide +kernel
theorem dX3_isName_42 : decode cX3_isName 42 = .ok (.goto 15, 3) := by decide +kernel
theorem dX3_isName_45 : decode cX3_isName 45 = .ok (.iload_n 1, 1) := by decide +kernel
theorem dX3_isName_46 : decode cX3_isName 46 = .ok (.sipush 1212, 3) := by decide +kernel
theorem dX3_isName_49 : decode cX3_isName 49 = .ok (.if_icmp .ne 7, 3) := by decide +kernel
theorem dX3_isName_52 : decode cX3_isName 52 = .ok (.iconst 1, 1) := by decide +kernel
theorem dX3_isName_53 : decode cX3_isName 53 = .ok (.goto 4, 3) := by decide +kernel
theorem dX3_isName_56 : decode cX3_isName 56 = .ok (.iconst 0, 1) := by decide +kernel
theorem dX3_isName_57 : decode cX3_isName 57 = .ok (.ireturn, 1) := by decide +kernel
def f_X3_isName_14  (s : zS) : Option (Int32 × zS) :=
  some ((1 : Int32), s)
set_option maxRecDepth 20000 in
theorem b_X3_isName_14 {X : zX} (hX : zx_ok X cX3_isName RX3 2) (hT : zx_rt X (some .boolean) (zR 0 0)) : ∀  (s : zS), zV X (zq X zrI) 2 14 [] [] s (f_X3_isName_14  s) := by
  intro  s
  unfold f_X3_isName_14
  refine zv_iconst (v := (1 : Int32)) hX dX3_isName_14 zi_i_1 ?_
  exact zv_iretz hX hT (by decide) dX3_isName_15
def f_X3_isName_57 (w0 : Int32) (s : zS) : Option (Int32 × zS) :=
  if w0 = 0 ∨ w0 = 1 then some (w0, s) else none
set_option maxRecDepth 20000 in
theorem b_X3_isName_57 {X : zX} (hX : zx_ok X cX3_isName RX3 2) (hT : zx_rt X (some .boolean) (zR 0 0)) : ∀ (w0 : Int32) (s : zS), zV X (zq X zrI) 2 57 [] [.int w0] s (f_X3_isName_57 w0 s) := by
  intro w0 s
  unfold f_X3_isName_57
  exact zv_iretzB hX hT dX3_isName_57
def f_X3_isName_41  (s : zS) : Option (Int32 × zS) :=
  f_X3_isName_57 (0 : Int32) s
set_option maxRecDepth 20000 in
theorem b_X3_isName_41 {X : zX} (hX : zx_ok X cX3_isName RX3 2) (hT : zx_rt X (some .boolean) (zR 0 0)) : ∀  (s : zS), zV X (zq X zrI) 2 41 [] [] s (f_X3_isName_41  s) := by
  intro  s
  unfold f_X3_isName_41
  refine zv_iconst (v := (0 : Int32)) hX dX3_isName_41 zi_i_0 ?_
  refine zv_goto (tgt := 57) hX dX3_isName_42 rfl ?_
  exact b_X3_isName_57 hX hT (0 : Int32) s
def f_X3_isName (v1 : Int32) (s : zS) : Option (Int32 × zS) :=
  if v1 = (nI 1210) then
  (f_X3_isName_14 s)
  else
  if ¬ v1 = (nI 1211) then
  (if (s.1 30 6) = 0 then
  (if ¬ v1 = (nI 1212) then
  (f_X3_isName_57 (0 : Int32) s)
  else
  f_X3_isName_57 (1 : Int32) s)
  else
  if v1 < (nI 1213) then
  (f_X3_isName_41 s)
  else
  if (nI 1216) < v1 then
  (f_X3_isName_41 s)
  else
  f_X3_isName_57 (1 : Int32) s)
  else
  f_X3_isName_14 s
set_option maxRecDepth 20000 in
theorem c_X3_isName (Y : zG) (v1 : Int32) (s : zS) : zM Y yX3_isName cX3_isName 2 (some .boolean) (zR 0 0) [.ref (zy_a Y 30), .int v1] s zrI (f_X3_isName v1 s) := by
  refine zm_start (by decide +kernel) (Nat.le_of_ble_eq_true rfl) ?_
  intro X hY hT hX
  subst hY
  have hX : zx_ok X cX3_isName RX3 2 := hX
  show zV X (zq X zrI) 2 0 [(0, .ref (zx_ad X 30)), (1, .int v1)] [] s _
  unfold f_X3_isName
  refine zv_iload_n hX dX3_isName_0 1 rfl ?_
  refine zv_sipush (v := (nI 1210)) hX dX3_isName_1 zi_s_1210 ?_
  refine zv_icmp_eq (tgt := 14) hX dX3_isName_4 rfl ?_ ?_
  · exact zv_sub [] rfl (b_X3_isName_14 hX hT  s)
  · refine zv_iload_n hX dX3_isName_7 1 rfl ?_
    refine zv_sipush (v := (nI 1211)) hX dX3_isName_8 zi_s_1211 ?_
    refine zv_icmp_ne (tgt := 16) hX dX3_isName_11 rfl ?_ ?_
    · refine zv_aload_n hX dX3_isName_16 0 rfl ?_
      refine zv_geti hX wf_X3_109 wc_3 zd_30 zj_30_6 c9_3 zr_30_6 dX3_isName_17 ?_
      refine zv_if_eq (tgt := 45) hX dX3_isName_20 rfl ?_ ?_
      · refine zv_iload_n hX dX3_isName_45 1 rfl ?_
        refine zv_sipush (v := (nI 1212)) hX dX3_isName_46 zi_s_1212 ?_
        refine zv_icmp_ne (tgt := 56) hX dX3_isName_49 rfl ?_ ?_
        · refine zv_iconst (v := (0 : Int32)) hX dX3_isName_56 zi_i_0 ?_
          exact zv_sub [] rfl (b_X3_isName_57 hX hT (0 : Int32) s)
        · refine zv_iconst (v := (1 : Int32)) hX dX3_isName_52 zi_i_1 ?_
          refine zv_goto (tgt := 57) hX dX3_isName_53 rfl ?_
          exact zv_sub [] rfl (b_X3_isName_57 hX hT (1 : Int32) s)
      · refine zv_iload_n hX dX3_isName_23 1 rfl ?_
        refine zv_sipush (v := (nI 1213)) hX dX3_isName_24 zi_s_1213 ?_
        refine zv_icmp_lt (tgt := 41) hX dX3_isName_27 rfl ?_ ?_
        · exact zv_sub [] rfl (b_X3_isName_41 hX hT  s)
        · refine zv_iload_n hX dX3_isName_30 1 rfl ?_
          refine zv_sipush (v := (nI 1216)) hX dX3_isName_31 zi_s_1216 ?_
          refine zv_icmp_gt (tgt := 41) hX dX3_isName_34 rfl ?_ ?_
          · exact zv_sub [] rfl (b_X3_isName_41 hX hT  s)
          · refine zv_iconst (v := (1 : Int32)) hX dX3_isName_37 zi_i_1 ?_
            refine zv_goto (tgt := 57) hX dX3_isName_38 rfl ?_
            exact zv_sub [] rfl (b_X3_isName_57 hX hT (1 : Int32) s)
    · exact zv_sub [] rfl (b_X3_isName_14 hX hT  s)
theorem dX3_refuse_0 : decode cX3_refuse 0 = .ok (.aload_n 0, 1) := by decide +kernel
theorem dX3_refuse_1 : decode cX3_refuse 1 = .ok (.aload_n 0, 1) := by decide +kernel
theorem dX3_refuse_2 : decode cX3_refuse 2 = .ok (.getfield 22, 3) := by decide +kernel
theorem dX3_refuse_5 : decode cX3_refuse 5 = .ok (.aload_n 0, 1) := by decide +kernel
theorem dX3_refuse_6 : decode cX3_refuse 6 = .ok (.getfield 39, 3) := by decide +kernel
theorem dX3_refuse_9 : decode cX3_refuse 9 = .ok (.iaload, 1) := by decide +kernel
theorem dX3_refuse_10 : decode cX3_refuse 10 = .ok (.sipush 1001, 3) := by decide +kernel
theorem dX3_refuse_13 : decode cX3_refuse 13 = .ok (.if_icmp .ne 7, 3) := by decide +kernel
theorem dX3_refuse_16 : decode cX3_refuse 16 = .ok (.iconst 1, 1) := by decide +kernel
theorem dX3_refuse_17 : decode cX3_refuse 17 = .ok (.goto 4, 3) := by decide +kernel
theorem dX3_refuse_20 : decode cX3_refuse 20 = .ok (.iload_n 1, 1) := by decide +kernel
theorem dX3_refuse_21 : decode cX3_refuse 21 = .ok (.putfield 29, 3) := by decide +kernel
theorem dX3_refuse_24 : decode cX3_refuse 24 = .ok (.aload_n 0, 1) := by decide +kernel
theorem dX3_refuse_25 : decode cX3_refuse 25 = .ok (.aload_n 0, 1) := by decide +kernel
theorem dX3_refuse_26 : decode cX3_refuse 26 = .ok (.getfield 26, 3) := by decide +kernel
theorem dX3_refuse_29 : decode cX3_refuse 29 = .ok (.aload_n 0, 1) := by decide +kernel
theorem dX3_refuse_30 : decode cX3_refuse 30 = .ok (.getfield 39, 3) := by decide +kernel
theorem dX3_refuse_33 : decode cX3_refuse 33 = .ok (.iaload, 1) := by decide +kernel
theorem dX3_refuse_34 : decode cX3_refuse 34 = .ok (.putfield 18, 3) := by decide +kernel
theorem dX3_refuse_37 : decode cX3_refuse 37 = .ok (.iconst 0, 1) := by decide +kernel
theorem dX3_refuse_38 : decode cX3_refuse 38 = .ok (.ireturn, 1) := by decide +kernel
def f_X3_refuse_21 (w0 : Int32) (s : zS) : Option (Int32 × zS) :=
  zb (zs_i s 30 1 w0) fun s1 =>
  (zr_i s1 41 (s1.1 30 5)).bind fun x2 =>
  zb (zs_i s1 30 2 x2) fun s3 =>
  some ((0 : Int32), s3)
set_option maxRecDepth 20000 in
theorem b_X3_refuse_21 {X : zX} (hX : zx_ok X cX3_refuse RX3 2) (hT : zx_rt X (some .boolean) (zR 0 0)) : ∀ (w0 : Int32) (s : zS), zV X (zq X zrI) 2 21 [(0, .ref (zx_ad X 30))] [.int w0, .ref (zx_ad X 30)] s (f_X3_refuse_21 w0 s) := by
  intro w0 s
  unfold f_X3_refuse_21
  refine zv_puti hX wf_X3_29 wc_3 wk_3_1 zd_30 zj_30_1 c9_3 zr_30_1 dX3_refuse_21 (fun s1 => ?_)
  refine zv_aload_n hX dX3_refuse_24 0 rfl ?_
  refine zv_aload_n hX dX3_refuse_25 0 rfl ?_
  refine zv_geta hX wf_X3_26 wc_3 zd_30 zj_30_4 c9_3 zr_30_4 (by decide) dX3_refuse_26 ?_
  refine zv_aload_n hX dX3_refuse_29 0 rfl ?_
  refine zv_geti hX wf_X3_39 wc_3 zd_30 zj_30_5 c9_3 zr_30_5 dX3_refuse_30 ?_
  refine zv_iald hX dX3_refuse_33 (fun x2 => ?_)
  refine zv_puti hX wf_X3_18 wc_3 wk_3_2 zd_30 zj_30_2 c9_3 zr_30_2 dX3_refuse_34 (fun s3 => ?_)
  refine zv_iconst (v := (0 : Int32)) hX dX3_refuse_37 zi_i_0 ?_
  exact zv_iretz hX hT (by decide) dX3_refuse_38
def f_X3_refuse (v1 : Int32) (s : zS) : Option (Int32 × zS) :=
  (zr_i s 40 (s.1 30 5)).bind fun x4 =>
  if ¬ x4 = (nI 1001) then
  (f_X3_refuse_21 v1 s)
  else
  f_X3_refuse_21 (1 : Int32) s
set_option maxRecDepth 20000 in
theorem c_X3_refuse (Y : zG) (v1 : Int32) (s : zS) : zM Y yX3_refuse cX3_refuse 2 (some .boolean) (zR 0 0) [.ref (zy_a Y 30), .int v1] s zrI (f_X3_refuse v1 s) := by
  refine zm_start (by decide +kernel) (Nat.le_of_ble_eq_true rfl) ?_
  intro X hY hT hX
  subst hY
  have hX : zx_ok X cX3_refuse RX3 2 := hX
  show zV X (zq X zrI) 2 0 [(0, .ref (zx_ad X 30)), (1, .int v1)] [] s _
  unfold f_X3_refuse
  refine zv_aload_n hX dX3_refuse_0 0 rfl ?_
  refine zv_aload_n hX dX3_refuse_1 0 rfl ?_
  refine zv_geta hX wf_X3_22 wc_3 zd_30 zj_30_3 c9_3 zr_30_3 (by decide) dX3_refuse_2 ?_
  refine zv_aload_n hX dX3_refuse_5 0 rfl ?_
  refine zv_geti hX wf_X3_39 wc_3 zd_30 zj_30_5 c9_3 zr_30_5 dX3_refuse_6 ?_
  refine zv_iald hX dX3_refuse_9 (fun x4 => ?_)
  refine zv_sipush (v := (nI 1001)) hX dX3_refuse_10 zi_s_1001 ?_
  refine zv_icmp_ne (tgt := 20) hX dX3_refuse_13 rfl ?_ ?_
  · refine zv_iload_n hX dX3_refuse_20 1 rfl ?_
    exact zv_sub [0] rfl (b_X3_refuse_21 hX hT v1 s)
  · refine zv_iconst (v := (1 : Int32)) hX dX3_refuse_16 zi_i_1 ?_
    refine zv_goto (tgt := 21) hX dX3_refuse_17 rfl ?_
    exact zv_sub [0] rfl (b_X3_refuse_21 hX hT (1 : Int32) s)
theorem dX3_step_0 : decode cX3_step 0 = .ok (.aload_n 0, 1) := by decide +kernel
theorem dX3_step_1 : decode cX3_step 1 = .ok (.getfield 22, 3) := by decide +kernel
theorem dX3_step_4 : decode cX3_step 4 = .ok (.aload_n 0, 1) := by decide +kernel
theorem dX3_step_5 : decode cX3_step 5 = .ok (.getfield 39, 3) := by decide +kernel
theorem dX3_step_8 : decode cX3_step 8 = .ok (.iaload, 1) := by decide +kernel
theorem dX3_step_9 : decode cX3_step 9 = .ok (.sipush 1000, 3) := by decide +kernel
theorem dX3_step_12 : decode cX3_step 12 = .ok (.if_icmp .eq 23, 3) := by decide +kernel
theorem dX3_step_15 : decode cX3_step 15 = .ok (.aload_n 0, 1) := by decide +kernel
theorem dX3_step_16 : decode cX3_step 16 = .ok (.getfield 39, 3) := by decide +kernel
theorem dX3_step_19 : decode cX3_step 19 = .ok (.sipush 900, 3) := by decide +kernel
theorem dX3_step_22 : decode cX3_step 22 = .ok (.if_icmp .ge 13, 3) := by decide +kernel
theorem dX3_step_25 : decode cX3_step 25 = .ok (.aload_n 0, 1) := by decide +kernel
theorem dX3_step_26 : decode cX3_step 26 = .ok (.dup, 1) := by decide +kernel
theorem dX3_step_27 : decode cX3_step 27 = .ok (.getfield 39, 3) := by decide +kernel
theorem dX3_step_30 : decode cX3_step 30 = .ok (.iconst 1, 1) := by decide +kernel
theorem dX3_step_31 : decode cX3_step 31 = .ok (.iadd, 1) := by decide +kernel
theorem dX3_step_32 : decode cX3_step 32 = .ok (.putfield 39, 3) := by decide +kernel
theorem dX3_step_35 : decode cX3_step 35 = .ok (.return_, 1) := by decide +kernel
def f_X3_step_35  (s : zS) : Option (Unit × zS) :=
  some ((), s)
set_option maxRecDepth 20000 in
theorem b_X3_step_35 {X : zX} (hX : zx_ok X cX3_step RX3 1) (hT : zx_rt X none (zR 0 0)) : ∀  (s : zS), zV X (zq X zrV) 1 35 [] [] s (f_X3_step_35  s) := by
  intro  s
  unfold f_X3_step_35
  exact zv_vret hX hT dX3_step_35
def f_X3_step  (s : zS) : Option (Unit × zS) :=
  (zr_i s 40 (s.1 30 5)).bind fun x1 =>
  if x1 = (nI 1000) then
  (f_X3_step_35 s)
  else
  if (nI 900) ≤ (s.1 30 5) then
  (f_X3_step_35 s)
  else
  zb (zs_i s 30 5 ((s.1 30 5) + (1 : Int32))) fun s2 =>
  f_X3_step_35 s2
set_option maxRecDepth 20000 in
theorem c_X3_step (Y : zG)  (s : zS) : zM Y yX3_step cX3_step 1 none (zR 0 0) [.ref (zy_a Y 30)] s zrV (f_X3_step  s) := by
  refine zm_start (by decide +kernel) (Nat.le_of_ble_eq_true rfl) ?_
  intro X hY hT hX
  subst hY
  have hX : zx_ok X cX3_step RX3 1 := hX
  show zV X (zq X zrV) 1 0 [(0, .ref (zx_ad X 30))] [] s _
  unfold f_X3_step
  refine zv_aload_n hX dX3_step_0 0 rfl ?_
  refine zv_geta hX wf_X3_22 wc_3 zd_30 zj_30_3 c9_3 zr_30_3 (by decide) dX3_step_1 ?_
  refine zv_aload_n hX dX3_step_4 0 rfl ?_
  refine zv_geti hX wf_X3_39 wc_3 zd_30 zj_30_5 c9_3 zr_30_5 dX3_step_5 ?_
  refine zv_iald hX dX3_step_8 (fun x1 => ?_)
  refine zv_sipush (v := (nI 1000)) hX dX3_step_9 zi_s_1000 ?_
  refine zv_icmp_eq (tgt := 35) hX dX3_step_12 rfl ?_ ?_
  · exact zv_sub [] rfl (b_X3_step_35 hX hT  s)
  · refine zv_aload_n hX dX3_step_15 0 rfl ?_
    refine zv_geti hX wf_X3_39 wc_3 zd_30 zj_30_5 c9_3 zr_30_5 dX3_step_16 ?_
    refine zv_sipush (v := (nI 900)) hX dX3_step_19 zi_s_900 ?_
    refine zv_icmp_ge (tgt := 35) hX dX3_step_22 rfl ?_ ?_
    · exact zv_sub [] rfl (b_X3_step_35 hX hT  s)
    · refine zv_aload_n hX dX3_step_25 0 rfl ?_
      refine zv_dup hX dX3_step_26 rfl ?_
      refine zv_geti hX wf_X3_39 wc_3 zd_30 zj_30_5 c9_3 zr_30_5 dX3_step_27 ?_
      refine zv_iconst (v := (1 : Int32)) hX dX3_step_30 zi_i_1 ?_
      refine zv_iadd hX dX3_step_31 ?_
      refine zv_puti hX wf_X3_39 wc_3 wk_3_5 zd_30 zj_30_5 c9_3 zr_30_5 dX3_step_32 (fun s2 => ?_)
      exact zv_sub [] rfl (b_X3_step_35 hX hT  s2)
def f_X5_has_31_23 (w0 : Int32) (s : zS) : Option (Int32 × zS) :=
  if w0 = 0 ∨ w0 = 1 then some (w0, s) else none
set_option maxRecDepth 20000 in
theorem b_X5_has_31_23 {X : zX} (hX : zx_ok X cX5_has RX5 2) (hT : zx_rt X (some .boolean) (zR 0 0)) : ∀ (w0 : Int32) (s : zS), zV X (zq X zrI) 2 23 [] [.int w0] s (f_X5_has_31_23 w0 s) := by
  intro w0 s
  unfold f_X5_has_31_23
  exact zv_iretzB hX hT dX5_has_23
def f_X5_has_31_22  (s : zS) : Option (Int32 × zS) :=
  f_X5_has_31_23 (0 : Int32) s
set_option maxRecDepth 20000 in
theorem b_X5_has_31_22 {X : zX} (hX : zx_ok X cX5_has RX5 2) (hT : zx_rt X (some .boolean) (zR 0 0)) : ∀  (s : zS), zV X (zq X zrI) 2 22 [] [] s (f_X5_has_31_22  s) := by
  intro  s
  unfold f_X5_has_31_22
  refine zv_iconst (v := (0 : Int32)) hX dX5_has_22 zi_i_0 ?_
  exact b_X5_has_31_23 hX hT (0 : Int32) s
def f_X5_has_31 (v1 : Int32) (s : zS) : Option (Int32 × zS) :=
  if v1 < 0 then
  (f_X5_has_31_22 s)
  else
  if (s.1 31 0) ≤ v1 then
  (f_X5_has_31_22 s)
  else
  if (nI 7) ≤ v1 then
  (f_X5_has_31_22 s)
  else
  f_X5_has_31_23 (1 : Int32) s
set_option maxRecDepth 20000 in
theorem c_X5_has_31 (Y : zG) (v1 : Int32) (s : zS) : zM Y yX5_has cX5_has 2 (some .boolean) (zR 0 0) [.ref (zy_a Y 31), .int v1] s zrI (f_X5_has_31 v1 s) := by
  refine zm_start (by decide +kernel) (Nat.le_of_ble_eq_true rfl) ?_
  intro X hY hT hX
  subst hY
  have hX : zx_ok X cX5_has RX5 2 := hX
  show zV X (zq X zrI) 2 0 [(0, .ref (zx_ad X 31)), (1, .int v1)] [] s _
  unfold f_X5_has_31
  refine zv_iload_n hX dX5_has_0 1 rfl ?_
  refine zv_if_lt (tgt := 22) hX dX5_has_1 rfl ?_ ?_
  · exact zv_sub [] rfl (b_X5_has_31_22 hX hT  s)
  · refine zv_iload_n hX dX5_has_4 1 rfl ?_
    refine zv_aload_n hX dX5_has_5 0 rfl ?_
    refine zv_geti hX wf_X5_42 wc_5 zd_31 zj_31_0 c9_5 zr_31_0 dX5_has_6 ?_
    refine zv_icmp_ge (tgt := 22) hX dX5_has_9 rfl ?_ ?_
    · exact zv_sub [] rfl (b_X5_has_31_22 hX hT  s)
    · refine zv_iload_n hX dX5_has_12 1 rfl ?_
      refine zv_bipush (v := (nI 7)) hX dX5_has_13 zi_b_7 ?_
      refine zv_icmp_ge (tgt := 22) hX dX5_has_15 rfl ?_ ?_
      · exact zv_sub [] rfl (b_X5_has_31_22 hX hT  s)
      · refine zv_iconst (v := (1 : Int32)) hX dX5_has_18 zi_i_1 ?_
        refine zv_goto (tgt := 23) hX dX5_has_19 rfl ?_
        exact zv_sub [] rfl (b_X5_has_31_23 hX hT (1 : Int32) s)
theorem dX3_takePerson_0 : decode cX3_takePerson 0 = .ok (.aload_n 0, 1) := by decide +kernel
theorem dX3_takePerson_1 : decode cX3_takePerson 1 = .ok (.getfield 22, 3) := by decide +kernel
theorem dX3_takePerson_4 : decode cX3_takePerson 4 = .ok (.aload_n 0, 1) := by decide +kernel
theorem dX3_takePerson_5 : decode cX3_takePerson 5 = .ok (.getfield 39, 3) := by decide +kernel
theorem dX3_takePerson_8 : decode cX3_takePerson 8 = .ok (.iaload, 1) := by decide +kernel
theorem dX3_takePerson_9 : decode cX3_takePerson 9 = .ok (.istore_n 2, 1) := by decide +kernel
theorem dX3_takePerson_10 : decode cX3_takePerson 10 = .ok (.iload_n 2, 1) := by decide +kernel
theorem dX3_takePerson_11 : decode cX3_takePerson 11 = .ok (.sipush 1000, 3) := by decide +kernel
theorem dX3_takePerson_14 : decode cX3_takePerson 14 = .ok (.if_icmp .lt 11, 3) := by decide +kernel
theorem dX3_takePerson_17 : decode cX3_takePerson 17 = .ok (.aload_n 0, 1) := by decide +kernel
theorem dX3_takePerson_18 : decode cX3_takePerson 18 = .ok (.iconst 2, 1) := by decide +kernel
theorem dX3_takePerson_19 : decode cX3_takePerson 19 = .ok (.invokevirtual 94, 3) := by decide +kernel
theorem dX3_takePerson_22 : decode cX3_takePerson 22 = .ok (.pop, 1) := by decide +kernel
theorem dX3_takePerson_23 : decode cX3_takePerson 23 = .ok (.iconst (-1), 1) := by decide +kernel
theorem dX3_takePerson_24 : decode cX3_takePerson 24 = .ok (.ireturn, 1) := by decide +kernel
theorem dX3_takePerson_25 : decode cX3_takePerson 25 = .ok (.aload_n 0, 1) := by decide +kernel
theorem dX3_takePerson_26 : decode cX3_takePerson 26 = .ok (.getfield 12, 3) := by decide +kernel
theorem dX3_takePerson_29 : decode cX3_takePerson 29 = .ok (.iload_n 2, 1) := by decide +kernel
theorem dX3_takePerson_30 : decode cX3_takePerson 30 = .ok (.invokevirtual 153, 3) := by decide +kernel
theorem dX3_takePerson_33 : decode cX3_takePerson 33 = .ok (.ifCond .eq 20, 3) := by decide +kernel
theorem dX3_takePerson_36 : decode cX3_takePerson 36 = .ok (.iload_n 2, 1) := by decide +kernel
theorem dX3_takePerson_37 : decode cX3_takePerson 37 = .ok (.iload_n 1, 1) := by decide +kernel
theorem dX3_takePerson_38 : decode cX3_takePerson 38 = .ok (.if_icmp .eq 15, 3) := by decide +kernel
theorem dX3_takePerson_41 : decode cX3_takePerson 41 = .ok (.aload_n 0, 1) := by decide +kernel
theorem dX3_takePerson_42 : decode cX3_takePerson 42 = .ok (.getfield 12, 3) := by decide +kernel
theorem dX3_takePerson_45 : decode cX3_takePerson 45 = .ok (.getfield 150, 3) := by decide +kernel
theorem dX3_takePerson_48 : decode cX3_takePerson 48 = .ok (.iload_n 2, 1) := by decide +kernel
theorem dX3_takePerson_49 : decode cX3_takePerson 49 = .ok (.iaload, 1) := by decide +kernel
theorem dX3_takePerson_50 : decode cX3_takePerson 50 = .ok (.ifCond .lt 11, 3) := by decide +kernel
theorem dX3_takePerson_53 : decode cX3_takePerson 53 = .ok (.aload_n 0, 1) := by decide +kernel
theorem dX3_takePerson_54 : decode cX3_takePerson 54 = .ok (.iconst 3, 1) := by decide +kernel
theorem dX3_takePerson_55 : decode cX3_takePerson 55 = .ok (.invokevirtual 94, 3) := by decide +kernel
theorem dX3_takePerson_58 : decode cX3_takePerson 58 = .ok (.pop, 1) := by decide +kernel
theorem dX3_takePerson_59 : decode cX3_takePerson 59 = .ok (.iconst (-1), 1) := by decide +kernel
theorem dX3_takePerson_60 : decode cX3_takePerson 60 = .ok (.ireturn, 1) := by decide +kernel
theorem dX3_takePerson_61 : decode cX3_takePerson 61 = .ok (.aload_n 0, 1) := by decide +kernel
theorem dX3_takePerson_62 : decode cX3_takePerson 62 = .ok (.invokevirtual 97, 3) := by decide +kernel
theorem dX3_takePerson_65 : decode cX3_takePerson 65 = .ok (.iload_n 2, 1) := by decide +kernel
theorem dX3_takePerson_66 : decode cX3_takePerson 66 = .ok (.ireturn, 1) := by decide +kernel
def f_X3_takePerson_53  (s : zS) : Option (Int32 × zS) :=
  zbd (f_X3_refuse (nI 3) s) fun r1 s2 =>
  some ((-1 : Int32), s2)
set_option maxRecDepth 20000 in
theorem b_X3_takePerson_53 {X : zX} (hX : zx_ok X cX3_takePerson RX3 3) (hT : zx_rt X (some .int) (zR 1 21)) : ∀  (s : zS), zV X (zq X zrI) 3 53 [(0, .ref (zx_ad X 30))] [] s (f_X3_takePerson_53  s) := by
  intro  s
  unfold f_X3_takePerson_53
  refine zv_aload_n hX dX3_takePerson_53 0 rfl ?_
  refine zv_iconst (v := (nI 3)) hX dX3_takePerson_54 zi_i_3 ?_
  refine zv_cVI [.int (nI 3)] (rest := []) hX hT.2.2.2.2 (c_X3_refuse (zx_Y X) (nI 3) s) wv_X3_refuse c9_3 zd_30 wm_X3_94 rfl (Nat.le_of_ble_eq_true rfl) (Nat.le_of_ble_eq_true rfl) rfl (Nat.le_of_ble_eq_true rfl) dX3_takePerson_55 (fun r1 s2 => ?_)
  refine zv_pop hX dX3_takePerson_58 rfl ?_
  refine zv_iconst (v := (-1 : Int32)) hX dX3_takePerson_59 zi_i_m1 ?_
  exact zv_ireti hX hT dX3_takePerson_60
def f_X3_takePerson (v1 : Int32) (s : zS) : Option (Int32 × zS) :=
  (zr_i s 40 (s.1 30 5)).bind fun x3 =>
  if x3 < (nI 1000) then
  (zbd (f_X5_has_31 x3 s) fun r4 s5 =>
  if r4 = 0 then
  (f_X3_takePerson_53 s5)
  else
  if x3 = v1 then
  (f_X3_takePerson_53 s5)
  else
  (zr_i s5 36 x3).bind fun x6 =>
  if x6 < 0 then
  (zbd (f_X3_step s5) fun _ s7 =>
  some (x3, s7))
  else
  f_X3_takePerson_53 s5)
  else
  zbd (f_X3_refuse (nI 2) s) fun r8 s9 =>
  some ((-1 : Int32), s9)
set_option maxRecDepth 20000 in
theorem c_X3_takePerson (Y : zG) (v1 : Int32) (s : zS) : zM Y yX3_takePerson cX3_takePerson 3 (some .int) (zR 1 21) [.ref (zy_a Y 30), .int v1] s zrI (f_X3_takePerson v1 s) := by
  refine zm_start (by decide +kernel) (Nat.le_of_ble_eq_true rfl) ?_
  intro X hY hT hX
  subst hY
  have hX : zx_ok X cX3_takePerson RX3 3 := hX
  show zV X (zq X zrI) 3 0 [(0, .ref (zx_ad X 30)), (1, .int v1)] [] s _
  unfold f_X3_takePerson
  refine zv_aload_n hX dX3_takePerson_0 0 rfl ?_
  refine zv_geta hX wf_X3_22 wc_3 zd_30 zj_30_3 c9_3 zr_30_3 (by decide) dX3_takePerson_1 ?_
  refine zv_aload_n hX dX3_takePerson_4 0 rfl ?_
  refine zv_geti hX wf_X3_39 wc_3 zd_30 zj_30_5 c9_3 zr_30_5 dX3_takePerson_5 ?_
  refine zv_iald hX dX3_takePerson_8 (fun x3 => ?_)
  refine zv_istore_n (lv' := [(2, .int x3), (0, .ref (zx_ad X 30)), (1, .int v1)]) hX dX3_takePerson_9 (by decide) rfl ?_
  refine zv_iload_n hX dX3_takePerson_10 0 rfl ?_
  refine zv_sipush (v := (nI 1000)) hX dX3_takePerson_11 zi_s_1000 ?_
  refine zv_icmp_lt (tgt := 25) hX dX3_takePerson_14 rfl ?_ ?_
  · refine zv_aload_n hX dX3_takePerson_25 1 rfl ?_
    refine zv_geta hX wf_X3_12 wc_3 zd_30 zj_30_0 c9_3 zr_30_0 (by decide) dX3_takePerson_26 ?_
    refine zv_iload_n hX dX3_takePerson_29 0 rfl ?_
    refine zv_cVI [.int x3] (rest := []) hX hT.2.2.2.2 (c_X5_has_31 (zx_Y X) x3 s) wv_X5_has c9_5 zd_31 wm_X3_153 rfl (Nat.le_of_ble_eq_true rfl) (Nat.le_of_ble_eq_true rfl) rfl (Nat.le_of_ble_eq_true rfl) dX3_takePerson_30 (fun r4 s5 => ?_)
    refine zv_if_eq (tgt := 53) hX dX3_takePerson_33 rfl ?_ ?_
    · exact zv_sub [1] rfl (b_X3_takePerson_53 hX hT  s5)
    · refine zv_iload_n hX dX3_takePerson_36 0 rfl ?_
      refine zv_iload_n hX dX3_takePerson_37 2 rfl ?_
      refine zv_icmp_eq (tgt := 53) hX dX3_takePerson_38 rfl ?_ ?_
      · exact zv_sub [1] rfl (b_X3_takePerson_53 hX hT  s5)
      · refine zv_aload_n hX dX3_takePerson_41 1 rfl ?_
        refine zv_geta hX wf_X3_12 wc_3 zd_30 zj_30_0 c9_3 zr_30_0 (by decide) dX3_takePerson_42 ?_
        refine zv_geta hX wf_X3_150 wc_5 zd_31 zj_31_6 c9_5 zr_31_6 (by decide) dX3_takePerson_45 ?_
        refine zv_iload_n hX dX3_takePerson_48 0 rfl ?_
        refine zv_iald hX dX3_takePerson_49 (fun x6 => ?_)
        refine zv_if_lt (tgt := 61) hX dX3_takePerson_50 rfl ?_ ?_
        · refine zv_aload_n hX dX3_takePerson_61 1 rfl ?_
          refine zv_cVV [] (rest := []) hX hT.2.2.2.2 (c_X3_step (zx_Y X) s5) wv_X3_step c9_3 zd_30 wm_X3_97 rfl (Nat.le_of_ble_eq_true rfl) (Nat.le_of_ble_eq_true rfl) rfl (Nat.le_of_ble_eq_true rfl) dX3_takePerson_62 (fun _ s7 => ?_)
          refine zv_iload_n hX dX3_takePerson_65 0 rfl ?_
          exact zv_ireti hX hT dX3_takePerson_66
        · exact zv_sub [1] rfl (b_X3_takePerson_53 hX hT  s5)
  · refine zv_aload_n hX dX3_takePerson_17 1 rfl ?_
    refine zv_iconst (v := (nI 2)) hX dX3_takePerson_18 zi_i_2 ?_
    refine zv_cVI [.int (nI 2)] (rest := []) hX hT.2.2.2.2 (c_X3_refuse (zx_Y X) (nI 2) s) wv_X3_refuse c9_3 zd_30 wm_X3_94 rfl (Nat.le_of_ble_eq_true rfl) (Nat.le_of_ble_eq_true rfl) rfl (Nat.le_of_ble_eq_true rfl) dX3_takePerson_19 (fun r8 s9 => ?_)
    refine zv_pop hX dX3_takePerson_22 rfl ?_
    refine zv_iconst (v := (-1 : Int32)) hX dX3_takePerson_23 zi_i_m1 ?_
    exact zv_ireti hX hT dX3_takePerson_24
theorem dX3_readEngaged_0 : decode cX3_readEngaged 0 = .ok (.aload_n 0, 1) := by decide +kernel
theorem dX3_readEngaged_1 : decode cX3_readEngaged 1 = .ok (.iconst (-1), 1) := by decide +kernel
theorem dX3_readEngaged_2 : decode cX3_readEngaged 2 = .ok (.invokevirtual 147, 3) := by decide +kernel
theorem dX3_readEngaged_5 : decode cX3_readEngaged 5 = .ok (.istore_n 1, 1) := by decide +kernel
theorem dX3_readEngaged_6 : decode cX3_readEngaged 6 = .ok (.iload_n 1, 1) := by decide +kernel
theorem dX3_readEngaged_7 : decode cX3_readEngaged 7 = .ok (.ifCond .ge 7, 3) := by decide +kernel
theorem dX3_readEngaged_10 : decode cX3_readEngaged 10 = .ok (.iconst (-1), 1) := by decide +kernel
theorem dX3_readEngaged_11 : decode cX3_readEngaged 11 = .ok (.goto 8, 3) := by decide +kernel
theorem dX3_readEngaged_14 : decode cX3_readEngaged 14 = .ok (.aload_n 0, 1) := by decide +kernel
theorem dX3_readEngaged_15 : decode cX3_readEngaged 15 = .ok (.iload_n 1, 1) := by decide +kernel
theorem dX3_readEngaged_16 : decode cX3_readEngaged 16 = .ok (.invokevirtual 147, 3) := by decide +kernel
theorem dX3_readEngaged_19 : decode cX3_readEngaged 19 = .ok (.istore_n 2, 1) := by decide +kernel
theorem dX3_readEngaged_20 : decode cX3_readEngaged 20 = .ok (.iload_n 2, 1) := by decide +kernel
theorem dX3_readEngaged_21 : decode cX3_readEngaged 21 = .ok (.ifCond .ge 5, 3) := by decide +kernel
theorem dX3_readEngaged_24 : decode cX3_readEngaged 24 = .ok (.iconst 0, 1) := by decide +kernel
theorem dX3_readEngaged_25 : decode cX3_readEngaged 25 = .ok (.ireturn, 1) := by decide +kernel
theorem dX3_readEngaged_26 : decode cX3_readEngaged 26 = .ok (.aload_n 0, 1) := by decide +kernel
theorem dX3_readEngaged_27 : decode cX3_readEngaged 27 = .ok (.getfield 12, 3) := by decide +kernel
theorem dX3_readEngaged_30 : decode cX3_readEngaged 30 = .ok (.getfield 150, 3) := by decide +kernel
theorem dX3_readEngaged_33 : decode cX3_readEngaged 33 = .ok (.iload_n 1, 1) := by decide +kernel
theorem dX3_readEngaged_34 : decode cX3_readEngaged 34 = .ok (.iload_n 2, 1) := by decide +kernel
theorem dX3_readEngaged_35 : decode cX3_readEngaged 35 = .ok (.iastore, 1) := by decide +kernel
theorem dX3_readEngaged_36 : decode cX3_readEngaged 36 = .ok (.aload_n 0, 1) := by decide +kernel
theorem dX3_readEngaged_37 : decode cX3_readEngaged 37 = .ok (.getfield 12, 3) := by decide +kernel
theorem dX3_readEngaged_40 : decode cX3_readEngaged 40 = .ok (.getfield 150, 3) := by decide +kernel
theorem dX3_readEngaged_43 : decode cX3_readEngaged 43 = .ok (.iload_n 2, 1) := by decide +kernel
theorem dX3_readEngaged_44 : decode cX3_readEngaged 44 = .ok (.iload_n 1, 1) := by decide +kernel
theorem dX3_readEngaged_45 : decode cX3_readEngaged 45 = .ok (.iastore, 1) := by decide +kernel
theorem dX3_readEngaged_46 : decode cX3_readEngaged 46 = .ok (.iconst 1, 1) := by decide +kernel
theorem dX3_readEngaged_47 : decode cX3_readEngaged 47 = .ok (.ireturn, 1) := by decide +kernel
def f_X3_readEngaged_19 (v1 : Int32) (w0 : Int32) (s : zS) : Option (Int32 × zS) :=
  if 0 ≤ w0 then
  ((zw_i s 36 v1 w0).bind fun s1 =>
  (zw_i s1 36 w0 v1).bind fun s2 =>
  some ((1 : Int32), s2))
  else
  some ((0 : Int32), s)
set_option maxRecDepth 20000 in
theorem b_X3_readEngaged_19 {X : zX} (hX : zx_ok X cX3_readEngaged RX3 3) (hT : zx_rt X (some .boolean) (zR 2 43)) : ∀ (v1 : Int32) (w0 : Int32) (s : zS), zV X (zq X zrI) 3 19 [(0, .ref (zx_ad X 30)), (1, .int v1)] [.int w0] s (f_X3_readEngaged_19 v1 w0 s) := by
  intro v1 w0 s
  unfold f_X3_readEngaged_19
  refine zv_istore_n (lv' := [(2, .int w0), (0, .ref (zx_ad X 30)), (1, .int v1)]) hX dX3_readEngaged_19 (by decide) rfl ?_
  refine zv_iload_n hX dX3_readEngaged_20 0 rfl ?_
  refine zv_if_ge (tgt := 26) hX dX3_readEngaged_21 rfl ?_ ?_
  · refine zv_aload_n hX dX3_readEngaged_26 1 rfl ?_
    refine zv_geta hX wf_X3_12 wc_3 zd_30 zj_30_0 c9_3 zr_30_0 (by decide) dX3_readEngaged_27 ?_
    refine zv_geta hX wf_X3_150 wc_5 zd_31 zj_31_6 c9_5 zr_31_6 (by decide) dX3_readEngaged_30 ?_
    refine zv_iload_n hX dX3_readEngaged_33 2 rfl ?_
    refine zv_iload_n hX dX3_readEngaged_34 0 rfl ?_
    refine zv_iast hX dX3_readEngaged_35 (fun s1 => ?_)
    refine zv_aload_n hX dX3_readEngaged_36 1 rfl ?_
    refine zv_geta hX wf_X3_12 wc_3 zd_30 zj_30_0 c9_3 zr_30_0 (by decide) dX3_readEngaged_37 ?_
    refine zv_geta hX wf_X3_150 wc_5 zd_31 zj_31_6 c9_5 zr_31_6 (by decide) dX3_readEngaged_40 ?_
    refine zv_iload_n hX dX3_readEngaged_43 0 rfl ?_
    refine zv_iload_n hX dX3_readEngaged_44 2 rfl ?_
    refine zv_iast hX dX3_readEngaged_45 (fun s2 => ?_)
    refine zv_iconst (v := (1 : Int32)) hX dX3_readEngaged_46 zi_i_1 ?_
    exact zv_iretz hX hT (by decide) dX3_readEngaged_47
  · refine zv_iconst (v := (0 : Int32)) hX dX3_readEngaged_24 zi_i_0 ?_
    exact zv_iretz hX hT (by decide) dX3_readEngaged_25
def f_X3_readEngaged  (s : zS) : Option (Int32 × zS) :=
  zbd (f_X3_takePerson (-1 : Int32) s) fun r3 s4 =>
  if 0 ≤ r3 then
  (zbd (f_X3_takePerson r3 s4) fun r5 s6 =>
  f_X3_readEngaged_19 r3 r5 s6)
  else
  f_X3_readEngaged_19 r3 (-1 : Int32) s4
set_option maxRecDepth 20000 in
theorem c_X3_readEngaged (Y : zG)  (s : zS) : zM Y yX3_readEngaged cX3_readEngaged 3 (some .boolean) (zR 2 43) [.ref (zy_a Y 30)] s zrI (f_X3_readEngaged  s) := by
  refine zm_start (by decide +kernel) (Nat.le_of_ble_eq_true rfl) ?_
  intro X hY hT hX
  subst hY
  have hX : zx_ok X cX3_readEngaged RX3 3 := hX
  show zV X (zq X zrI) 3 0 [(0, .ref (zx_ad X 30))] [] s _
  unfold f_X3_readEngaged
  refine zv_aload_n hX dX3_readEngaged_0 0 rfl ?_
  refine zv_iconst (v := (-1 : Int32)) hX dX3_readEngaged_1 zi_i_m1 ?_
  refine zv_cVI [.int (-1 : Int32)] (rest := []) hX hT.2.2.2.2 (c_X3_takePerson (zx_Y X) (-1 : Int32) s) wv_X3_takePerson c9_3 zd_30 wm_X3_147 rfl (Nat.le_of_ble_eq_true rfl) (Nat.le_of_ble_eq_true rfl) rfl (Nat.le_of_ble_eq_true rfl) dX3_readEngaged_2 (fun r3 s4 => ?_)
  refine zv_istore_n (lv' := [(1, .int r3), (0, .ref (zx_ad X 30))]) hX dX3_readEngaged_5 (by decide) rfl ?_
  refine zv_iload_n hX dX3_readEngaged_6 0 rfl ?_
  refine zv_if_ge (tgt := 14) hX dX3_readEngaged_7 rfl ?_ ?_
  · refine zv_aload_n hX dX3_readEngaged_14 1 rfl ?_
    refine zv_iload_n hX dX3_readEngaged_15 0 rfl ?_
    refine zv_cVI [.int r3] (rest := []) hX hT.2.2.2.2 (c_X3_takePerson (zx_Y X) r3 s4) wv_X3_takePerson c9_3 zd_30 wm_X3_147 rfl (Nat.le_of_ble_eq_true rfl) (Nat.le_of_ble_eq_true rfl) rfl (Nat.le_of_ble_eq_true rfl) dX3_readEngaged_16 (fun r5 s6 => ?_)
    exact zv_sub [1, 0] rfl (b_X3_readEngaged_19 hX hT r3 r5 s6)
  · refine zv_iconst (v := (-1 : Int32)) hX dX3_readEngaged_10 zi_i_m1 ?_
    refine zv_goto (tgt := 19) hX dX3_readEngaged_11 rfl ?_
    exact zv_sub [1, 0] rfl (b_X3_readEngaged_19 hX hT r3 (-1 : Int32) s4)
theorem dX3_take_0 : decode cX3_take 0 = .ok (.aload_n 0, 1) := by decide +kernel
theorem dX3_take_1 : decode cX3_take 1 = .ok (.getfield 22, 3) := by decide +kernel
theorem dX3_take_4 : decode cX3_take 4 = .ok (.aload_n 0, 1) := by decide +kernel
theorem dX3_take_5 : decode cX3_take 5 = .ok (.getfield 39, 3) := by decide +kernel
theorem dX3_take_8 : decode cX3_take 8 = .ok (.iaload, 1) := by decide +kernel
theorem dX3_take_9 : decode cX3_take 9 = .ok (.iload_n 1, 1) := by decide +kernel
theorem dX3_take_10 : decode cX3_take 10 = .ok (.if_icmp .eq 9, 3) := by decide +kernel
theorem dX3_take_13 : decode cX3_take 13 = .ok (.aload_n 0, 1) := by decide +kernel
theorem dX3_take_14 : decode cX3_take 14 = .ok (.iconst 2, 1) := by decide +kernel
theorem dX3_take_15 : decode cX3_take 15 = .ok (.invokevirtual 94, 3) := by decide +kernel
theorem dX3_take_18 : decode cX3_take 18 = .ok (.ireturn, 1) := by decide +kernel
theorem dX3_take_19 : decode cX3_take 19 = .ok (.aload_n 0, 1) := by decide +kernel
theorem dX3_take_20 : decode cX3_take 20 = .ok (.invokevirtual 97, 3) := by decide +kernel
theorem dX3_take_23 : decode cX3_take 23 = .ok (.iconst 1, 1) := by decide +kernel
theorem dX3_take_24 : decode cX3_take 24 = .ok (.ireturn, 1) := by decide +kernel
def f_X3_take (v1 : Int32) (s : zS) : Option (Int32 × zS) :=
  (zr_i s 40 (s.1 30 5)).bind fun x1 =>
  if x1 = v1 then
  (zbd (f_X3_step s) fun _ s2 =>
  some ((1 : Int32), s2))
  else
  zbd (f_X3_refuse (nI 2) s) fun r3 s4 =>
  if r3 = 0 ∨ r3 = 1 then some (r3, s4) else none
set_option maxRecDepth 20000 in
theorem c_X3_take (Y : zG) (v1 : Int32) (s : zS) : zM Y yX3_take cX3_take 2 (some .boolean) (zR 1 21) [.ref (zy_a Y 30), .int v1] s zrI (f_X3_take v1 s) := by
  refine zm_start (by decide +kernel) (Nat.le_of_ble_eq_true rfl) ?_
  intro X hY hT hX
  subst hY
  have hX : zx_ok X cX3_take RX3 2 := hX
  show zV X (zq X zrI) 2 0 [(0, .ref (zx_ad X 30)), (1, .int v1)] [] s _
  unfold f_X3_take
  refine zv_aload_n hX dX3_take_0 0 rfl ?_
  refine zv_geta hX wf_X3_22 wc_3 zd_30 zj_30_3 c9_3 zr_30_3 (by decide) dX3_take_1 ?_
  refine zv_aload_n hX dX3_take_4 0 rfl ?_
  refine zv_geti hX wf_X3_39 wc_3 zd_30 zj_30_5 c9_3 zr_30_5 dX3_take_5 ?_
  refine zv_iald hX dX3_take_8 (fun x1 => ?_)
  refine zv_iload_n hX dX3_take_9 1 rfl ?_
  refine zv_icmp_eq (tgt := 19) hX dX3_take_10 rfl ?_ ?_
  · refine zv_aload_n hX dX3_take_19 0 rfl ?_
    refine zv_cVV [] (rest := []) hX hT.2.2.2.2 (c_X3_step (zx_Y X) s) wv_X3_step c9_3 zd_30 wm_X3_97 rfl (Nat.le_of_ble_eq_true rfl) (Nat.le_of_ble_eq_true rfl) rfl (Nat.le_of_ble_eq_true rfl) dX3_take_20 (fun _ s2 => ?_)
    refine zv_iconst (v := (1 : Int32)) hX dX3_take_23 zi_i_1 ?_
    exact zv_iretz hX hT (by decide) dX3_take_24
  · refine zv_aload_n hX dX3_take_13 0 rfl ?_
    refine zv_iconst (v := (nI 2)) hX dX3_take_14 zi_i_2 ?_
    refine zv_cVI [.int (nI 2)] (rest := []) hX hT.2.2.2.2 (c_X3_refuse (zx_Y X) (nI 2) s) wv_X3_refuse c9_3 zd_30 wm_X3_94 rfl (Nat.le_of_ble_eq_true rfl) (Nat.le_of_ble_eq_true rfl) rfl (Nat.le_of_ble_eq_true rfl) dX3_take_15 (fun r3 s4 => ?_)
    exact zv_iretzB hX hT dX3_take_18
