theorem dX4_allTwosFit_0 : decode cX4_allTwosFit 0 = .ok (.iconst 0, 1) := by decide +kernel
theorem dX4_allTwosFit_1 : decode cX4_allTwosFit 1 = .ok (.istore_n 2, 1) := by decide +kernel
theorem dX4_allTwosFit_2 : decode cX4_allTwosFit 2 = .ok (.iload_n 2, 1) := by decide +kernel
theorem dX4_allTwosFit_3 : decode cX4_allTwosFit 3 = .ok (.aload_n 0, 1) := by decide +kernel
theorem dX4_allTwosFit_4 : decode cX4_allTwosFit 4 = .ok (.getfield 64, 3) := by decide +kernel
theorem dX4_allTwosFit_7 : decode cX4_allTwosFit 7 = .ok (.getfield 137, 3) := by decide +kernel
theorem dX4_allTwosFit_10 : decode cX4_allTwosFit 10 = .ok (.if_icmp .ge 59, 3) := by decide +kernel
theorem dX4_allTwosFit_13 : decode cX4_allTwosFit 13 = .ok (.iload_n 2, 1) := by decide +kernel
theorem dX4_allTwosFit_14 : decode cX4_allTwosFit 14 = .ok (.iconst 1, 1) := by decide +kernel
theorem dX4_allTwosFit_15 : decode cX4_allTwosFit 15 = .ok (.iadd, 1) := by decide +kernel
theorem dX4_allTwosFit_16 : decode cX4_allTwosFit 16 = .ok (.istore_n 3, 1) := by decide +kernel
theorem dX4_allTwosFit_17 : decode cX4_allTwosFit 17 = .ok (.iload_n 3, 1) := by decide +kernel
theorem dX4_allTwosFit_18 : decode cX4_allTwosFit 18 = .ok (.aload_n 0, 1) := by decide +kernel
theorem dX4_allTwosFit_19 : decode cX4_allTwosFit 19 = .ok (.getfield 64, 3) := by decide +kernel
theorem dX4_allTwosFit_22 : decode cX4_allTwosFit 22 = .ok (.getfield 137, 3) := by decide +kernel
theorem dX4_allTwosFit_25 : decode cX4_allTwosFit 25 = .ok (.if_icmp .ge 38, 3) := by decide +kernel
theorem dX4_allTwosFit_28 : decode cX4_allTwosFit 28 = .ok (.iload_n 1, 1) := by decide +kernel
theorem dX4_allTwosFit_29 : decode cX4_allTwosFit 29 = .ok (.iload_n 2, 1) := by decide +kernel
theorem dX4_allTwosFit_30 : decode cX4_allTwosFit 30 = .ok (.iushr, 1) := by decide +kernel
theorem dX4_allTwosFit_31 : decode cX4_allTwosFit 31 = .ok (.iconst 1, 1) := by decide +kernel
theorem dX4_allTwosFit_32 : decode cX4_allTwosFit 32 = .ok (.iand, 1) := by decide +kernel
theorem dX4_allTwosFit_33 : decode cX4_allTwosFit 33 = .ok (.iconst 1, 1) := by decide +kernel
theorem dX4_allTwosFit_34 : decode cX4_allTwosFit 34 = .ok (.if_icmp .ne 23, 3) := by decide +kernel
theorem dX4_allTwosFit_37 : decode cX4_allTwosFit 37 = .ok (.iload_n 1, 1) := by decide +kernel
theorem dX4_allTwosFit_38 : decode cX4_allTwosFit 38 = .ok (.iload_n 3, 1) := by decide +kernel
theorem dX4_allTwosFit_39 : decode cX4_allTwosFit 39 = .ok (.iushr, 1) := by decide +kernel
theorem dX4_allTwosFit_40 : decode cX4_allTwosFit 40 = .ok (.iconst 1, 1) := by decide +kernel
theorem dX4_allTwosFit_41 : decode cX4_allTwosFit 41 = .ok (.iand, 1) := by decide +kernel
theorem dX4_allTwosFit_42 : decode cX4_allTwosFit 42 = .ok (.iconst 1, 1) := by decide +kernel
theorem dX4_allTwosFit_43 : decode cX4_allTwosFit 43 = .ok (.if_icmp .ne 14, 3) := by decide +kernel
theorem dX4_allTwosFit_46 : decode cX4_allTwosFit 46 = .ok (.aload_n 0, 1) := by decide +kernel
theorem dX4_allTwosFit_47 : decode cX4_allTwosFit 47 = .ok (.iload_n 2, 1) := by decide +kernel
theorem dX4_allTwosFit_48 : decode cX4_allTwosFit 48 = .ok (.iload_n 3, 1) := by decide +kernel
theorem dX4_allTwosFit_49 : decode cX4_allTwosFit 49 = .ok (.invokevirtual 140, 3) := by decide +kernel
theorem dX4_allTwosFit_52 : decode cX4_allTwosFit 52 = .ok (.ifCond .ne 5, 3) := by decide +kernel
theorem dX4_allTwosFit_55 : decode cX4_allTwosFit 55 = .ok (.iconst 0, 1) := by decide +kernel
theorem dX4_allTwosFit_56 : decode cX4_allTwosFit 56 = .ok (.ireturn, 1) := by decide +kernel
theorem dX4_allTwosFit_57 : decode cX4_allTwosFit 57 = .ok (.iinc 3 1, 3) := by decide +kernel
theorem dX4_allTwosFit_60 : decode cX4_allTwosFit 60 = .ok (.goto (-43), 3) := by decide +kernel
theorem dX4_allTwosFit_63 : decode cX4_allTwosFit 63 = .ok (.iinc 2 1, 3) := by decide +kernel
theorem dX4_allTwosFit_66 : decode cX4_allTwosFit 66 = .ok (.goto (-64), 3) := by decide +kernel
theorem dX4_allTwosFit_69 : decode cX4_allTwosFit 69 = .ok (.iconst 1, 1) := by decide +kernel
theorem dX4_allTwosFit_70 : decode cX4_allTwosFit 70 = .ok (.ireturn, 1) := by decide +kernel
def f_X4_allTwosFit_57 (kb_2 : Int32 → Int32 → zS → Option (Int32 × zS)) (kb_17 : Int32 → Int32 → Int32 → zS → Option (Int32 × zS)) (v1 : Int32) (v2 : Int32) (v3 : Int32) (s : zS) : Option (Int32 × zS) :=
  zb (v3 + (1 : Int32)) fun x1 =>
  kb_17 v1 v2 x1 s
set_option maxRecDepth 20000 in
theorem b_X4_allTwosFit_57 {X : zX} {kb_2 : Int32 → Int32 → zS → Option (Int32 × zS)} {kb_17 : Int32 → Int32 → Int32 → zS → Option (Int32 × zS)} (hX : zx_ok X cX4_allTwosFit RX4 4) (hT : zx_rt X (some .boolean) (zR 3 78)) (hk_2 : ∀ (v1 : Int32) (v2 : Int32) (s : zS), zV X (zq X zrI) 4 2 [(0, .ref (zx_ad X 42)), (1, .int v1), (2, .int v2)] [] s (kb_2 v1 v2 s)) (hk_17 : ∀ (v1 : Int32) (v2 : Int32) (v3 : Int32) (s : zS), zV X (zq X zrI) 4 17 [(0, .ref (zx_ad X 42)), (1, .int v1), (2, .int v2), (3, .int v3)] [] s (kb_17 v1 v2 v3 s)) : ∀ (v1 : Int32) (v2 : Int32) (v3 : Int32) (s : zS), zV X (zq X zrI) 4 57 [(0, .ref (zx_ad X 42)), (1, .int v1), (2, .int v2), (3, .int v3)] [] s (f_X4_allTwosFit_57 kb_2 kb_17 v1 v2 v3 s) := by
  intro v1 v2 v3 s
  unfold f_X4_allTwosFit_57
  refine zv_iincB (lw := fun x1 => [(3, .int x1), (0, .ref (zx_ad X 42)), (1, .int v1), (2, .int v2)]) hX dX4_allTwosFit_57 3 rfl zi_i_1 (by decide) (fun _ => rfl) (fun x1 => ?_)
  refine zv_goto (tgt := 17) hX dX4_allTwosFit_60 rfl ?_
  exact zv_sub [1, 2, 3, 0] rfl (hk_17 v1 v2 x1 s)
def f_X4_allTwosFit_17 (kb_2 : Int32 → Int32 → zS → Option (Int32 × zS)) : Nat → Int32 → Int32 → Int32 → zS → Option (Int32 × zS)
  | 0, _, _, _, _ => none
  | n + 1, v1, v2, v3, s =>
    if (s.1 3 0) ≤ v3 then
    (zb (v2 + (1 : Int32)) fun x2 =>
    kb_2 v1 x2 s)
    else
    if ¬ ((zo_ush v1 v2) &&& (1 : Int32)) = (1 : Int32) then
    (f_X4_allTwosFit_57 kb_2 (f_X4_allTwosFit_17 kb_2 n) v1 v2 v3 s)
    else
    if ¬ ((zo_ush v1 v3) &&& (1 : Int32)) = (1 : Int32) then
    (f_X4_allTwosFit_57 kb_2 (f_X4_allTwosFit_17 kb_2 n) v1 v2 v3 s)
    else
    zbd (f_X4_twoFit v2 v3 s) fun r3 s4 =>
    if ¬ r3 = 0 then
    (f_X4_allTwosFit_57 kb_2 (f_X4_allTwosFit_17 kb_2 n) v1 v2 v3 s4)
    else
    some ((0 : Int32), s4)
set_option maxRecDepth 20000 in
theorem b_X4_allTwosFit_17 {X : zX} {kb_2 : Int32 → Int32 → zS → Option (Int32 × zS)} (hX : zx_ok X cX4_allTwosFit RX4 4) (hT : zx_rt X (some .boolean) (zR 3 78)) (hk_2 : ∀ (v1 : Int32) (v2 : Int32) (s : zS), zV X (zq X zrI) 4 2 [(0, .ref (zx_ad X 42)), (1, .int v1), (2, .int v2)] [] s (kb_2 v1 v2 s)) : ∀ (n : Nat) (v1 : Int32) (v2 : Int32) (v3 : Int32) (s : zS), zV X (zq X zrI) 4 17 [(0, .ref (zx_ad X 42)), (1, .int v1), (2, .int v2), (3, .int v3)] [] s (f_X4_allTwosFit_17 kb_2 n v1 v2 v3 s) := by
  intro n
  induction n with
  | zero => intro v1 v2 v3 s; exact zv_none
  | succ n ih =>
    intro v1 v2 v3 s
    rw [f_X4_allTwosFit_17]
    refine zv_iload_n hX dX4_allTwosFit_17 3 rfl ?_
    refine zv_aload_n hX dX4_allTwosFit_18 0 rfl ?_
    refine zv_geta hX wf_X4_64 wc_4 zd_42 zj_42_0 c9_4 zr_42_0 (by decide) dX4_allTwosFit_19 ?_
    refine zv_geti hX wf_X4_137 wc_5 zd_3 zj_3_0 c9_5 zr_3_0 dX4_allTwosFit_22 ?_
    refine zv_icmp_ge (tgt := 63) hX dX4_allTwosFit_25 rfl ?_ ?_
    · refine zv_iincB (lw := fun x2 => [(2, .int x2), (0, .ref (zx_ad X 42)), (1, .int v1), (3, .int v3)]) hX dX4_allTwosFit_63 2 rfl zi_i_1 (by decide) (fun _ => rfl) (fun x2 => ?_)
      refine zv_goto (tgt := 2) hX dX4_allTwosFit_66 rfl ?_
      exact zv_sub [1, 2, 0] rfl (hk_2 v1 x2 s)
    · refine zv_iload_n hX dX4_allTwosFit_28 1 rfl ?_
      refine zv_iload_n hX dX4_allTwosFit_29 2 rfl ?_
      refine zv_iushr hX dX4_allTwosFit_30 ?_
      refine zv_iconst (v := (1 : Int32)) hX dX4_allTwosFit_31 zi_i_1 ?_
      refine zv_iand hX dX4_allTwosFit_32 ?_
      refine zv_iconst (v := (1 : Int32)) hX dX4_allTwosFit_33 zi_i_1 ?_
      refine zv_icmp_ne (tgt := 57) hX dX4_allTwosFit_34 rfl ?_ ?_
      · exact b_X4_allTwosFit_57 hX hT hk_2 ih v1 v2 v3 s
      · refine zv_iload_n hX dX4_allTwosFit_37 1 rfl ?_
        refine zv_iload_n hX dX4_allTwosFit_38 3 rfl ?_
        refine zv_iushr hX dX4_allTwosFit_39 ?_
        refine zv_iconst (v := (1 : Int32)) hX dX4_allTwosFit_40 zi_i_1 ?_
        refine zv_iand hX dX4_allTwosFit_41 ?_
        refine zv_iconst (v := (1 : Int32)) hX dX4_allTwosFit_42 zi_i_1 ?_
        refine zv_icmp_ne (tgt := 57) hX dX4_allTwosFit_43 rfl ?_ ?_
        · exact b_X4_allTwosFit_57 hX hT hk_2 ih v1 v2 v3 s
        · refine zv_aload_n hX dX4_allTwosFit_46 0 rfl ?_
          refine zv_iload_n hX dX4_allTwosFit_47 2 rfl ?_
          refine zv_iload_n hX dX4_allTwosFit_48 3 rfl ?_
          refine zv_cVI [.int v2, .int v3] (rest := []) hX hT.2.2.2.2 (c_X4_twoFit (zx_Y X) v2 v3 s) wv_X4_twoFit c9_4 zd_42 wm_X4_140 rfl (Nat.le_of_ble_eq_true rfl) (Nat.le_of_ble_eq_true rfl) rfl (Nat.le_of_ble_eq_true rfl) dX4_allTwosFit_49 (fun r3 s4 => ?_)
          refine zv_if_ne (tgt := 57) hX dX4_allTwosFit_52 rfl ?_ ?_
          · exact b_X4_allTwosFit_57 hX hT hk_2 ih v1 v2 v3 s4
          · refine zv_iconst (v := (0 : Int32)) hX dX4_allTwosFit_55 zi_i_0 ?_
            exact zv_iretz hX hT (by decide) dX4_allTwosFit_56
def f_X4_allTwosFit_2 : Nat → Int32 → Int32 → zS → Option (Int32 × zS)
  | 0, _, _, _ => none
  | n + 1, v1, v2, s =>
    if (s.1 3 0) ≤ v2 then
    (some ((1 : Int32), s))
    else
    zb (v2 + (1 : Int32)) fun x5 =>
    f_X4_allTwosFit_17 (f_X4_allTwosFit_2 n) zFU v1 v2 x5 s
set_option maxRecDepth 20000 in
theorem b_X4_allTwosFit_2 {X : zX} (hX : zx_ok X cX4_allTwosFit RX4 4) (hT : zx_rt X (some .boolean) (zR 3 78)) : ∀ (n : Nat) (v1 : Int32) (v2 : Int32) (s : zS), zV X (zq X zrI) 4 2 [(0, .ref (zx_ad X 42)), (1, .int v1), (2, .int v2)] [] s (f_X4_allTwosFit_2 n v1 v2 s) := by
  intro n
  induction n with
  | zero => intro v1 v2 s; exact zv_none
  | succ n ih =>
    intro v1 v2 s
    rw [f_X4_allTwosFit_2]
    refine zv_iload_n hX dX4_allTwosFit_2 2 rfl ?_
    refine zv_aload_n hX dX4_allTwosFit_3 0 rfl ?_
    refine zv_geta hX wf_X4_64 wc_4 zd_42 zj_42_0 c9_4 zr_42_0 (by decide) dX4_allTwosFit_4 ?_
    refine zv_geti hX wf_X4_137 wc_5 zd_3 zj_3_0 c9_5 zr_3_0 dX4_allTwosFit_7 ?_
    refine zv_icmp_ge (tgt := 69) hX dX4_allTwosFit_10 rfl ?_ ?_
    · refine zv_iconst (v := (1 : Int32)) hX dX4_allTwosFit_69 zi_i_1 ?_
      exact zv_iretz hX hT (by decide) dX4_allTwosFit_70
    · refine zv_iload_n hX dX4_allTwosFit_13 2 rfl ?_
      refine zv_iconst (v := (1 : Int32)) hX dX4_allTwosFit_14 zi_i_1 ?_
      refine zv_iadd hX dX4_allTwosFit_15 ?_
      refine zv_istB_n (lw := fun x5 => [(3, .int x5), (0, .ref (zx_ad X 42)), (1, .int v1), (2, .int v2)]) hX dX4_allTwosFit_16 (by decide) (fun _ => rfl) (fun x5 => ?_)
      exact zv_sub [1, 2, 3, 0] rfl (b_X4_allTwosFit_17 hX hT ih zFU v1 v2 x5 s)
def f_X4_allTwosFit (v1 : Int32) (s : zS) : Option (Int32 × zS) :=
  f_X4_allTwosFit_2 zFU v1 (0 : Int32) s
set_option maxRecDepth 20000 in
theorem c_X4_allTwosFit (Y : zG) (v1 : Int32) (s : zS) : zM Y yX4_allTwosFit cX4_allTwosFit 4 (some .boolean) (zR 3 78) [.ref (zy_a Y 42), .int v1] s zrI (f_X4_allTwosFit v1 s) := by
  refine zm_start (by decide +kernel) (Nat.le_of_ble_eq_true rfl) ?_
  intro X hY hT hX
  subst hY
  have hX : zx_ok X cX4_allTwosFit RX4 4 := hX
  show zV X (zq X zrI) 4 0 [(0, .ref (zx_ad X 42)), (1, .int v1)] [] s _
  unfold f_X4_allTwosFit
  refine zv_iconst (v := (0 : Int32)) hX dX4_allTwosFit_0 zi_i_0 ?_
  refine zv_istore_n (lv' := [(2, .int (0 : Int32)), (0, .ref (zx_ad X 42)), (1, .int v1)]) hX dX4_allTwosFit_1 (by decide) rfl ?_
  exact zv_sub [1, 2, 0] rfl (b_X4_allTwosFit_2 hX hT zFU v1 (0 : Int32) s)
theorem dX4_leastBehind_0 : decode cX4_leastBehind 0 = .ok (.iconst 0, 1) := by decide +kernel
theorem dX4_leastBehind_1 : decode cX4_leastBehind 1 = .ok (.istore 4, 2) := by decide +kernel
theorem dX4_leastBehind_3 : decode cX4_leastBehind 3 = .ok (.iload_n 1, 1) := by decide +kernel
theorem dX4_leastBehind_4 : decode cX4_leastBehind 4 = .ok (.iconst 1, 1) := by decide +kernel
theorem dX4_leastBehind_5 : decode cX4_leastBehind 5 = .ok (.iadd, 1) := by decide +kernel
theorem dX4_leastBehind_6 : decode cX4_leastBehind 6 = .ok (.istore 5, 2) := by decide +kernel
theorem dX4_leastBehind_8 : decode cX4_leastBehind 8 = .ok (.iload 5, 2) := by decide +kernel
theorem dX4_leastBehind_10 : decode cX4_leastBehind 10 = .ok (.aload_n 0, 1) := by decide +kernel
theorem dX4_leastBehind_11 : decode cX4_leastBehind 11 = .ok (.getfield 105, 3) := by decide +kernel
theorem dX4_leastBehind_14 : decode cX4_leastBehind 14 = .ok (.if_icmp .ge 195, 3) := by decide +kernel
theorem dX4_leastBehind_17 : decode cX4_leastBehind 17 = .ok (.iload 4, 2) := by decide +kernel
theorem dX4_leastBehind_19 : decode cX4_leastBehind 19 = .ok (.iload_n 3, 1) := by decide +kernel
theorem dX4_leastBehind_20 : decode cX4_leastBehind 20 = .ok (.if_icmp .ge 189, 3) := by decide +kernel
theorem dX4_leastBehind_23 : decode cX4_leastBehind 23 = .ok (.iload_n 1, 1) := by decide +kernel
theorem dX4_leastBehind_24 : decode cX4_leastBehind 24 = .ok (.iconst 4, 1) := by decide +kernel
theorem dX4_leastBehind_25 : decode cX4_leastBehind 25 = .ok (.imul, 1) := by decide +kernel
theorem dX4_leastBehind_26 : decode cX4_leastBehind 26 = .ok (.iload 5, 2) := by decide +kernel
theorem dX4_leastBehind_28 : decode cX4_leastBehind 28 = .ok (.iadd, 1) := by decide +kernel
theorem dX4_leastBehind_29 : decode cX4_leastBehind 29 = .ok (.bipush 9, 2) := by decide +kernel
theorem dX4_leastBehind_31 : decode cX4_leastBehind 31 = .ok (.imul, 1) := by decide +kernel
theorem dX4_leastBehind_32 : decode cX4_leastBehind 32 = .ok (.istore 6, 2) := by decide +kernel
theorem dX4_leastBehind_34 : decode cX4_leastBehind 34 = .ok (.iload 6, 2) := by decide +kernel
theorem dX4_leastBehind_36 : decode cX4_leastBehind 36 = .ok (.bipush 36, 2) := by decide +kernel
theorem dX4_leastBehind_38 : decode cX4_leastBehind 38 = .ok (.iadd, 1) := by decide +kernel
theorem dX4_leastBehind_39 : decode cX4_leastBehind 39 = .ok (.istore 7, 2) := by decide +kernel
theorem dX4_leastBehind_41 : decode cX4_leastBehind 41 = .ok (.aload_n 0, 1) := by decide +kernel
theorem dX4_leastBehind_42 : decode cX4_leastBehind 42 = .ok (.getfield 49, 3) := by decide +kernel
theorem dX4_leastBehind_45 : decode cX4_leastBehind 45 = .ok (.iload_n 1, 1) := by decide +kernel
theorem dX4_leastBehind_46 : decode cX4_leastBehind 46 = .ok (.iaload, 1) := by decide +kernel
theorem dX4_leastBehind_47 : decode cX4_leastBehind 47 = .ok (.bipush 7, 2) := by decide +kernel
theorem dX4_leastBehind_49 : decode cX4_leastBehind 49 = .ok (.imul, 1) := by decide +kernel
theorem dX4_leastBehind_50 : decode cX4_leastBehind 50 = .ok (.aload_n 0, 1) := by decide +kernel
theorem dX4_leastBehind_51 : decode cX4_leastBehind 51 = .ok (.getfield 49, 3) := by decide +kernel
theorem dX4_leastBehind_54 : decode cX4_leastBehind 54 = .ok (.iload 5, 2) := by decide +kernel
theorem dX4_leastBehind_56 : decode cX4_leastBehind 56 = .ok (.iaload, 1) := by decide +kernel
theorem dX4_leastBehind_57 : decode cX4_leastBehind 57 = .ok (.iadd, 1) := by decide +kernel
theorem dX4_leastBehind_58 : decode cX4_leastBehind 58 = .ok (.bipush 25, 2) := by decide +kernel
theorem dX4_leastBehind_60 : decode cX4_leastBehind 60 = .ok (.imul, 1) := by decide +kernel
theorem dX4_leastBehind_61 : decode cX4_leastBehind 61 = .ok (.bipush 12, 2) := by decide +kernel
theorem dX4_leastBehind_63 : decode cX4_leastBehind 63 = .ok (.iadd, 1) := by decide +kernel
theorem dX4_leastBehind_64 : decode cX4_leastBehind 64 = .ok (.getstatic 89, 3) := by decide +kernel
theorem dX4_leastBehind_67 : decode cX4_leastBehind 67 = .ok (.iload_n 2, 1) := by decide +kernel
theorem dX4_leastBehind_68 : decode cX4_leastBehind 68 = .ok (.iaload, 1) := by decide +kernel
theorem dX4_leastBehind_69 : decode cX4_leastBehind 69 = .ok (.isub, 1) := by decide +kernel
theorem dX4_leastBehind_70 : decode cX4_leastBehind 70 = .ok (.istore 8, 2) := by decide +kernel
theorem dX4_leastBehind_72 : decode cX4_leastBehind 72 = .ok (.ldc 96, 2) := by decide +kernel
theorem dX4_leastBehind_74 : decode cX4_leastBehind 74 = .ok (.istore 9, 2) := by decide +kernel
theorem dX4_leastBehind_76 : decode cX4_leastBehind 76 = .ok (.iconst 0, 1) := by decide +kernel
theorem dX4_leastBehind_77 : decode cX4_leastBehind 77 = .ok (.istore 10, 2) := by decide +kernel
theorem dX4_leastBehind_79 : decode cX4_leastBehind 79 = .ok (.iload 10, 2) := by decide +kernel
theorem dX4_leastBehind_81 : decode cX4_leastBehind 81 = .ok (.bipush 9, 2) := by decide +kernel
theorem dX4_leastBehind_83 : decode cX4_leastBehind 83 = .ok (.if_icmp .ge 64, 3) := by decide +kernel
theorem dX4_leastBehind_86 : decode cX4_leastBehind 86 = .ok (.aload_n 0, 1) := by decide +kernel
theorem dX4_leastBehind_87 : decode cX4_leastBehind 87 = .ok (.getfield 55, 3) := by decide +kernel
theorem dX4_leastBehind_90 : decode cX4_leastBehind 90 = .ok (.iload 6, 2) := by decide +kernel
theorem dX4_leastBehind_92 : decode cX4_leastBehind 92 = .ok (.iload 10, 2) := by decide +kernel
theorem dX4_leastBehind_94 : decode cX4_leastBehind 94 = .ok (.iadd, 1) := by decide +kernel
theorem dX4_leastBehind_95 : decode cX4_leastBehind 95 = .ok (.iaload, 1) := by decide +kernel
theorem dX4_leastBehind_96 : decode cX4_leastBehind 96 = .ok (.aload_n 0, 1) := by decide +kernel
theorem dX4_leastBehind_97 : decode cX4_leastBehind 97 = .ok (.getfield 9, 3) := by decide +kernel
theorem dX4_leastBehind_100 : decode cX4_leastBehind 100 = .ok (.iload 8, 2) := by decide +kernel
theorem dX4_leastBehind_102 : decode cX4_leastBehind 102 = .ok (.getstatic 89, 3) := by decide +kernel
theorem dX4_leastBehind_105 : decode cX4_leastBehind 105 = .ok (.iload 10, 2) := by decide +kernel
theorem dX4_leastBehind_107 : decode cX4_leastBehind 107 = .ok (.iaload, 1) := by decide +kernel
theorem dX4_leastBehind_108 : decode cX4_leastBehind 108 = .ok (.iadd, 1) := by decide +kernel
theorem dX4_leastBehind_109 : decode cX4_leastBehind 109 = .ok (.iaload, 1) := by decide +kernel
theorem dX4_leastBehind_110 : decode cX4_leastBehind 110 = .ok (.iadd, 1) := by decide +kernel
theorem dX4_leastBehind_111 : decode cX4_leastBehind 111 = .ok (.istore 11, 2) := by decide +kernel
theorem dX4_leastBehind_113 : decode cX4_leastBehind 113 = .ok (.aload_n 0, 1) := by decide +kernel
theorem dX4_leastBehind_114 : decode cX4_leastBehind 114 = .ok (.getfield 55, 3) := by decide +kernel
theorem dX4_leastBehind_117 : decode cX4_leastBehind 117 = .ok (.iload 7, 2) := by decide +kernel
theorem dX4_leastBehind_119 : decode cX4_leastBehind 119 = .ok (.iload 10, 2) := by decide +kernel
theorem dX4_leastBehind_121 : decode cX4_leastBehind 121 = .ok (.iadd, 1) := by decide +kernel
theorem dX4_leastBehind_122 : decode cX4_leastBehind 122 = .ok (.iload 11, 2) := by decide +kernel
theorem dX4_leastBehind_124 : decode cX4_leastBehind 124 = .ok (.iastore, 1) := by decide +kernel
theorem dX4_leastBehind_125 : decode cX4_leastBehind 125 = .ok (.iload 11, 2) := by decide +kernel
theorem dX4_leastBehind_127 : decode cX4_leastBehind 127 = .ok (.iload 9, 2) := by decide +kernel
theorem dX4_leastBehind_129 : decode cX4_leastBehind 129 = .ok (.if_icmp .ge 8, 3) := by decide +kernel
theorem dX4_leastBehind_132 : decode cX4_leastBehind 132 = .ok (.iload 11, 2) := by decide +kernel
theorem dX4_leastBehind_134 : decode cX4_leastBehind 134 = .ok (.goto 5, 3) := by decide +kernel
theorem dX4_leastBehind_137 : decode cX4_leastBehind 137 = .ok (.iload 9, 2) := by decide +kernel
theorem dX4_leastBehind_139 : decode cX4_leastBehind 139 = .ok (.istore 9, 2) := by decide +kernel
theorem dX4_leastBehind_141 : decode cX4_leastBehind 141 = .ok (.iinc 10 1, 3) := by decide +kernel
theorem dX4_leastBehind_144 : decode cX4_leastBehind 144 = .ok (.goto (-65), 3) := by decide +kernel
theorem dX4_leastBehind_147 : decode cX4_leastBehind 147 = .ok (.iload 4, 2) := by decide +kernel
theorem dX4_leastBehind_149 : decode cX4_leastBehind 149 = .ok (.iload 9, 2) := by decide +kernel
theorem dX4_leastBehind_151 : decode cX4_leastBehind 151 = .ok (.iadd, 1) := by decide +kernel
theorem dX4_leastBehind_152 : decode cX4_leastBehind 152 = .ok (.istore 4, 2) := by decide +kernel
theorem dX4_leastBehind_154 : decode cX4_leastBehind 154 = .ok (.iload 5, 2) := by decide +kernel
theorem dX4_leastBehind_156 : decode cX4_leastBehind 156 = .ok (.iconst 1, 1) := by decide +kernel
theorem dX4_leastBehind_157 : decode cX4_leastBehind 157 = .ok (.iadd, 1) := by decide +kernel
theorem dX4_leastBehind_158 : decode cX4_leastBehind 158 = .ok (.istore 10, 2) := by decide +kernel
theorem dX4_leastBehind_160 : decode cX4_leastBehind 160 = .ok (.iload 10, 2) := by decide +kernel
theorem dX4_leastBehind_162 : decode cX4_leastBehind 162 = .ok (.aload_n 0, 1) := by decide +kernel
theorem dX4_leastBehind_163 : decode cX4_leastBehind 163 = .ok (.getfield 105, 3) := by decide +kernel
theorem dX4_leastBehind_166 : decode cX4_leastBehind 166 = .ok (.if_icmp .ge 37, 3) := by decide +kernel
theorem dX4_leastBehind_169 : decode cX4_leastBehind 169 = .ok (.iload 4, 2) := by decide +kernel
theorem dX4_leastBehind_171 : decode cX4_leastBehind 171 = .ok (.aload_n 0, 1) := by decide +kernel
theorem dX4_leastBehind_172 : decode cX4_leastBehind 172 = .ok (.getfield 15, 3) := by decide +kernel
theorem dX4_leastBehind_175 : decode cX4_leastBehind 175 = .ok (.aload_n 0, 1) := by decide +kernel
theorem dX4_leastBehind_176 : decode cX4_leastBehind 176 = .ok (.getfield 49, 3) := by decide +kernel
theorem dX4_leastBehind_179 : decode cX4_leastBehind 179 = .ok (.iload 5, 2) := by decide +kernel
theorem dX4_leastBehind_181 : decode cX4_leastBehind 181 = .ok (.iaload, 1) := by decide +kernel
theorem dX4_leastBehind_182 : decode cX4_leastBehind 182 = .ok (.bipush 7, 2) := by decide +kernel
theorem dX4_leastBehind_184 : decode cX4_leastBehind 184 = .ok (.imul, 1) := by decide +kernel
theorem dX4_leastBehind_185 : decode cX4_leastBehind 185 = .ok (.aload_n 0, 1) := by decide +kernel
theorem dX4_leastBehind_186 : decode cX4_leastBehind 186 = .ok (.getfield 49, 3) := by decide +kernel
theorem dX4_leastBehind_189 : decode cX4_leastBehind 189 = .ok (.iload 10, 2) := by decide +kernel
theorem dX4_leastBehind_191 : decode cX4_leastBehind 191 = .ok (.iaload, 1) := by decide +kernel
theorem dX4_leastBehind_192 : decode cX4_leastBehind 192 = .ok (.iadd, 1) := by decide +kernel
theorem dX4_leastBehind_193 : decode cX4_leastBehind 193 = .ok (.iaload, 1) := by decide +kernel
theorem dX4_leastBehind_194 : decode cX4_leastBehind 194 = .ok (.iadd, 1) := by decide +kernel
theorem dX4_leastBehind_195 : decode cX4_leastBehind 195 = .ok (.istore 4, 2) := by decide +kernel
theorem dX4_leastBehind_197 : decode cX4_leastBehind 197 = .ok (.iinc 10 1, 3) := by decide +kernel
theorem dX4_leastBehind_200 : decode cX4_leastBehind 200 = .ok (.goto (-40), 3) := by decide +kernel
theorem dX4_leastBehind_203 : decode cX4_leastBehind 203 = .ok (.iinc 5 1, 3) := by decide +kernel
theorem dX4_leastBehind_206 : decode cX4_leastBehind 206 = .ok (.goto (-198), 3) := by decide +kernel
theorem dX4_leastBehind_209 : decode cX4_leastBehind 209 = .ok (.iload 4, 2) := by decide +kernel
theorem dX4_leastBehind_211 : decode cX4_leastBehind 211 = .ok (.ireturn, 1) := by decide +kernel
def f_X4_leastBehind_209 (v4 : Int32) (s : zS) : Option (Int32 × zS) :=
  some (v4, s)
set_option maxRecDepth 20000 in
theorem b_X4_leastBehind_209 {X : zX} (hX : zx_ok X cX4_leastBehind RX4 12) (hT : zx_rt X (some .int) (zR 0 0)) : ∀ (v4 : Int32) (s : zS), zV X (zq X zrI) 12 209 [(4, .int v4)] [] s (f_X4_leastBehind_209 v4 s) := by
  intro v4 s
  unfold f_X4_leastBehind_209
  refine zv_iload hX dX4_leastBehind_209 0 rfl ?_
  exact zv_ireti hX hT dX4_leastBehind_211
def f_X4_leastBehind_160 (kb_8 : Int32 → Int32 → Int32 → Int32 → Int32 → zS → Option (Int32 × zS)) : Nat → Int32 → Int32 → Int32 → Int32 → Int32 → Int32 → zS → Option (Int32 × zS)
  | 0, _, _, _, _, _, _, _ => none
  | n + 1, v1, v2, v3, v4, v5, v10, s =>
    if (s.1 42 14) ≤ v10 then
    (zb (v5 + (1 : Int32)) fun x1 =>
    kb_8 v1 v2 v3 v4 x1 s)
    else
    (zr_i s 55 v5).bind fun x2 =>
    (zr_i s 55 v10).bind fun x3 =>
    (zr_i s 44 ((x2 * (nI 7)) + x3)).bind fun x4 =>
    zb (v4 + x4) fun x5 =>
    zb (v10 + (1 : Int32)) fun x6 =>
    f_X4_leastBehind_160 kb_8 n v1 v2 v3 x5 v5 x6 s
set_option maxRecDepth 20000 in
theorem b_X4_leastBehind_160 {X : zX} {kb_8 : Int32 → Int32 → Int32 → Int32 → Int32 → zS → Option (Int32 × zS)} (hX : zx_ok X cX4_leastBehind RX4 12) (hT : zx_rt X (some .int) (zR 0 0)) (hk_8 : ∀ (v1 : Int32) (v2 : Int32) (v3 : Int32) (v4 : Int32) (v5 : Int32) (s : zS), zV X (zq X zrI) 12 8 [(0, .ref (zx_ad X 42)), (1, .int v1), (2, .int v2), (3, .int v3), (4, .int v4), (5, .int v5)] [] s (kb_8 v1 v2 v3 v4 v5 s)) : ∀ (n : Nat) (v1 : Int32) (v2 : Int32) (v3 : Int32) (v4 : Int32) (v5 : Int32) (v10 : Int32) (s : zS), zV X (zq X zrI) 12 160 [(0, .ref (zx_ad X 42)), (1, .int v1), (2, .int v2), (3, .int v3), (4, .int v4), (5, .int v5), (10, .int v10)] [] s (f_X4_leastBehind_160 kb_8 n v1 v2 v3 v4 v5 v10 s) := by
  intro n
  induction n with
  | zero => intro v1 v2 v3 v4 v5 v10 s; exact zv_none
  | succ n ih =>
    intro v1 v2 v3 v4 v5 v10 s
    rw [f_X4_leastBehind_160]
    refine zv_iload hX dX4_leastBehind_160 6 rfl ?_
    refine zv_aload_n hX dX4_leastBehind_162 0 rfl ?_
    refine zv_geti hX wf_X4_105 wc_4 zd_42 zj_42_14 c9_4 zr_42_14 dX4_leastBehind_163 ?_
    refine zv_icmp_ge (tgt := 203) hX dX4_leastBehind_166 rfl ?_ ?_
    · refine zv_iincB (lw := fun x1 => [(5, .int x1), (0, .ref (zx_ad X 42)), (1, .int v1), (2, .int v2), (3, .int v3), (4, .int v4), (10, .int v10)]) hX dX4_leastBehind_203 5 rfl zi_i_1 (by decide) (fun _ => rfl) (fun x1 => ?_)
      refine zv_goto (tgt := 8) hX dX4_leastBehind_206 rfl ?_
      exact zv_sub [1, 2, 3, 4, 5, 0] rfl (hk_8 v1 v2 v3 v4 x1 s)
    · refine zv_iload hX dX4_leastBehind_169 4 rfl ?_
      refine zv_aload_n hX dX4_leastBehind_171 0 rfl ?_
      refine zv_geta hX wf_X4_15 wc_4 zd_42 zj_42_2 c9_4 zr_42_2 (by decide) dX4_leastBehind_172 ?_
      refine zv_aload_n hX dX4_leastBehind_175 0 rfl ?_
      refine zv_geta hX wf_X4_49 wc_4 zd_42 zj_42_13 c9_4 zr_42_13 (by decide) dX4_leastBehind_176 ?_
      refine zv_iload hX dX4_leastBehind_179 5 rfl ?_
      refine zv_iald hX dX4_leastBehind_181 (fun x2 => ?_)
      refine zv_bipush (v := (nI 7)) hX dX4_leastBehind_182 zi_b_7 ?_
      refine zv_imul hX dX4_leastBehind_184 ?_
      refine zv_aload_n hX dX4_leastBehind_185 0 rfl ?_
      refine zv_geta hX wf_X4_49 wc_4 zd_42 zj_42_13 c9_4 zr_42_13 (by decide) dX4_leastBehind_186 ?_
      refine zv_iload hX dX4_leastBehind_189 6 rfl ?_
      refine zv_iald hX dX4_leastBehind_191 (fun x3 => ?_)
      refine zv_iadd hX dX4_leastBehind_192 ?_
      refine zv_iald hX dX4_leastBehind_193 (fun x4 => ?_)
      refine zv_iadd hX dX4_leastBehind_194 ?_
      refine zv_istB (lw := fun x5 => [(4, .int x5), (0, .ref (zx_ad X 42)), (1, .int v1), (2, .int v2), (3, .int v3), (5, .int v5), (10, .int v10)]) hX dX4_leastBehind_195 (by decide) (fun _ => rfl) (fun x5 => ?_)
      refine zv_iincB (lw := fun x6 => [(10, .int x6), (4, .int x5), (0, .ref (zx_ad X 42)), (1, .int v1), (2, .int v2), (3, .int v3), (5, .int v5)]) hX dX4_leastBehind_197 6 rfl zi_i_1 (by decide) (fun _ => rfl) (fun x6 => ?_)
      refine zv_goto (tgt := 160) hX dX4_leastBehind_200 rfl ?_
      exact zv_sub [2, 3, 4, 5, 1, 6, 0] rfl (ih v1 v2 v3 x5 v5 x6 s)
def f_X4_leastBehind_139 (kb_8 : Int32 → Int32 → Int32 → Int32 → Int32 → zS → Option (Int32 × zS)) (kb_79 : Int32 → Int32 → Int32 → Int32 → Int32 → Int32 → Int32 → Int32 → Int32 → Int32 → zS → Option (Int32 × zS)) (v1 : Int32) (v2 : Int32) (v3 : Int32) (v4 : Int32) (v5 : Int32) (v6 : Int32) (v7 : Int32) (v8 : Int32) (v10 : Int32) (w0 : Int32) (s : zS) : Option (Int32 × zS) :=
  zb (v10 + (1 : Int32)) fun x7 =>
  kb_79 v1 v2 v3 v4 v5 v6 v7 v8 w0 x7 s
set_option maxRecDepth 20000 in
theorem b_X4_leastBehind_139 {X : zX} {kb_8 : Int32 → Int32 → Int32 → Int32 → Int32 → zS → Option (Int32 × zS)} {kb_79 : Int32 → Int32 → Int32 → Int32 → Int32 → Int32 → Int32 → Int32 → Int32 → Int32 → zS → Option (Int32 × zS)} (hX : zx_ok X cX4_leastBehind RX4 12) (hT : zx_rt X (some .int) (zR 0 0)) (hk_8 : ∀ (v1 : Int32) (v2 : Int32) (v3 : Int32) (v4 : Int32) (v5 : Int32) (s : zS), zV X (zq X zrI) 12 8 [(0, .ref (zx_ad X 42)), (1, .int v1), (2, .int v2), (3, .int v3), (4, .int v4), (5, .int v5)] [] s (kb_8 v1 v2 v3 v4 v5 s)) (hk_79 : ∀ (v1 : Int32) (v2 : Int32) (v3 : Int32) (v4 : Int32) (v5 : Int32) (v6 : Int32) (v7 : Int32) (v8 : Int32) (v9 : Int32) (v10 : Int32) (s : zS), zV X (zq X zrI) 12 79 [(0, .ref (zx_ad X 42)), (1, .int v1), (2, .int v2), (3, .int v3), (4, .int v4), (5, .int v5), (6, .int v6), (7, .int v7), (8, .int v8), (9, .int v9), (10, .int v10)] [] s (kb_79 v1 v2 v3 v4 v5 v6 v7 v8 v9 v10 s)) : ∀ (v1 : Int32) (v2 : Int32) (v3 : Int32) (v4 : Int32) (v5 : Int32) (v6 : Int32) (v7 : Int32) (v8 : Int32) (v10 : Int32) (w0 : Int32) (s : zS), zV X (zq X zrI) 12 139 [(0, .ref (zx_ad X 42)), (1, .int v1), (2, .int v2), (3, .int v3), (4, .int v4), (5, .int v5), (6, .int v6), (7, .int v7), (8, .int v8), (10, .int v10)] [.int w0] s (f_X4_leastBehind_139 kb_8 kb_79 v1 v2 v3 v4 v5 v6 v7 v8 v10 w0 s) := by
  intro v1 v2 v3 v4 v5 v6 v7 v8 v10 w0 s
  unfold f_X4_leastBehind_139
  refine zv_istore (lv' := [(9, .int w0), (0, .ref (zx_ad X 42)), (1, .int v1), (2, .int v2), (3, .int v3), (4, .int v4), (5, .int v5), (6, .int v6), (7, .int v7), (8, .int v8), (10, .int v10)]) hX dX4_leastBehind_139 (by decide) rfl ?_
  refine zv_iincB (lw := fun x7 => [(10, .int x7), (9, .int w0), (0, .ref (zx_ad X 42)), (1, .int v1), (2, .int v2), (3, .int v3), (4, .int v4), (5, .int v5), (6, .int v6), (7, .int v7), (8, .int v8)]) hX dX4_leastBehind_141 10 rfl zi_i_1 (by decide) (fun _ => rfl) (fun x7 => ?_)
  refine zv_goto (tgt := 79) hX dX4_leastBehind_144 rfl ?_
  exact zv_sub [2, 3, 4, 5, 6, 7, 8, 9, 10, 1, 0] rfl (hk_79 v1 v2 v3 v4 v5 v6 v7 v8 w0 x7 s)
def f_X4_leastBehind_79 (kb_8 : Int32 → Int32 → Int32 → Int32 → Int32 → zS → Option (Int32 × zS)) : Nat → Int32 → Int32 → Int32 → Int32 → Int32 → Int32 → Int32 → Int32 → Int32 → Int32 → zS → Option (Int32 × zS)
  | 0, _, _, _, _, _, _, _, _, _, _, _ => none
  | n + 1, v1, v2, v3, v4, v5, v6, v7, v8, v9, v10, s =>
    if (nI 9) ≤ v10 then
    (zb (v4 + v9) fun x8 =>
    zb (v5 + (1 : Int32)) fun x9 =>
    f_X4_leastBehind_160 kb_8 zFU v1 v2 v3 x8 v5 x9 s)
    else
    (zr_i s 57 (v6 + v10)).bind fun x10 =>
    (zr_t 1 v10).bind fun x11 =>
    (zr_i s 43 (v8 + x11)).bind fun x12 =>
    zb (x10 + x12) fun x13 =>
    (zw_i s 57 (v7 + v10) x13).bind fun s14 =>
    if v9 ≤ x13 then
    (f_X4_leastBehind_139 kb_8 (f_X4_leastBehind_79 kb_8 n) v1 v2 v3 v4 v5 v6 v7 v8 v10 v9 s14)
    else
    f_X4_leastBehind_139 kb_8 (f_X4_leastBehind_79 kb_8 n) v1 v2 v3 v4 v5 v6 v7 v8 v10 x13 s14
set_option maxRecDepth 20000 in
theorem b_X4_leastBehind_79 {X : zX} {kb_8 : Int32 → Int32 → Int32 → Int32 → Int32 → zS → Option (Int32 × zS)} (hX : zx_ok X cX4_leastBehind RX4 12) (hT : zx_rt X (some .int) (zR 0 0)) (hk_8 : ∀ (v1 : Int32) (v2 : Int32) (v3 : Int32) (v4 : Int32) (v5 : Int32) (s : zS), zV X (zq X zrI) 12 8 [(0, .ref (zx_ad X 42)), (1, .int v1), (2, .int v2), (3, .int v3), (4, .int v4), (5, .int v5)] [] s (kb_8 v1 v2 v3 v4 v5 s)) : ∀ (n : Nat) (v1 : Int32) (v2 : Int32) (v3 : Int32) (v4 : Int32) (v5 : Int32) (v6 : Int32) (v7 : Int32) (v8 : Int32) (v9 : Int32) (v10 : Int32) (s : zS), zV X (zq X zrI) 12 79 [(0, .ref (zx_ad X 42)), (1, .int v1), (2, .int v2), (3, .int v3), (4, .int v4), (5, .int v5), (6, .int v6), (7, .int v7), (8, .int v8), (9, .int v9), (10, .int v10)] [] s (f_X4_leastBehind_79 kb_8 n v1 v2 v3 v4 v5 v6 v7 v8 v9 v10 s) := by
  intro n
  induction n with
  | zero => intro v1 v2 v3 v4 v5 v6 v7 v8 v9 v10 s; exact zv_none
  | succ n ih =>
    intro v1 v2 v3 v4 v5 v6 v7 v8 v9 v10 s
    rw [f_X4_leastBehind_79]
    refine zv_iload hX dX4_leastBehind_79 10 rfl ?_
    refine zv_bipush (v := (nI 9)) hX dX4_leastBehind_81 zi_b_9 ?_
    refine zv_icmp_ge (tgt := 147) hX dX4_leastBehind_83 rfl ?_ ?_
    · refine zv_iload hX dX4_leastBehind_147 4 rfl ?_
      refine zv_iload hX dX4_leastBehind_149 9 rfl ?_
      refine zv_iadd hX dX4_leastBehind_151 ?_
      refine zv_istB (lw := fun x8 => [(4, .int x8), (0, .ref (zx_ad X 42)), (1, .int v1), (2, .int v2), (3, .int v3), (5, .int v5), (6, .int v6), (7, .int v7), (8, .int v8), (9, .int v9), (10, .int v10)]) hX dX4_leastBehind_152 (by decide) (fun _ => rfl) (fun x8 => ?_)
      refine zv_iload hX dX4_leastBehind_154 5 rfl ?_
      refine zv_iconst (v := (1 : Int32)) hX dX4_leastBehind_156 zi_i_1 ?_
      refine zv_iadd hX dX4_leastBehind_157 ?_
      refine zv_istB (lw := fun x9 => [(10, .int x9), (4, .int x8), (0, .ref (zx_ad X 42)), (1, .int v1), (2, .int v2), (3, .int v3), (5, .int v5), (6, .int v6), (7, .int v7), (8, .int v8), (9, .int v9)]) hX dX4_leastBehind_158 (by decide) (fun _ => rfl) (fun x9 => ?_)
      exact zv_sub [2, 3, 4, 5, 1, 6, 0] rfl (b_X4_leastBehind_160 hX hT hk_8 zFU v1 v2 v3 x8 v5 x9 s)
    · refine zv_aload_n hX dX4_leastBehind_86 0 rfl ?_
      refine zv_geta hX wf_X4_55 wc_4 zd_42 zj_42_16 c9_4 zr_42_16 (by decide) dX4_leastBehind_87 ?_
      refine zv_iload hX dX4_leastBehind_90 6 rfl ?_
      refine zv_iload hX dX4_leastBehind_92 10 rfl ?_
      refine zv_iadd hX dX4_leastBehind_94 ?_
      refine zv_iald hX dX4_leastBehind_95 (fun x10 => ?_)
      refine zv_aload_n hX dX4_leastBehind_96 0 rfl ?_
      refine zv_geta hX wf_X4_9 wc_4 zd_42 zj_42_1 c9_4 zr_42_1 (by decide) dX4_leastBehind_97 ?_
      refine zv_iload hX dX4_leastBehind_100 8 rfl ?_
      refine zv_gsP hX dX4_leastBehind_102 ?_
      refine zv_iload hX dX4_leastBehind_105 10 rfl ?_
      refine zv_taldP hX dX4_leastBehind_107 (fun x11 => ?_)
      refine zv_iadd hX dX4_leastBehind_108 ?_
      refine zv_iald hX dX4_leastBehind_109 (fun x12 => ?_)
      refine zv_iadd hX dX4_leastBehind_110 ?_
      refine zv_istB (lw := fun x13 => [(11, .int x13), (0, .ref (zx_ad X 42)), (1, .int v1), (2, .int v2), (3, .int v3), (4, .int v4), (5, .int v5), (6, .int v6), (7, .int v7), (8, .int v8), (9, .int v9), (10, .int v10)]) hX dX4_leastBehind_111 (by decide) (fun _ => rfl) (fun x13 => ?_)
      refine zv_aload_n hX dX4_leastBehind_113 1 rfl ?_
      refine zv_geta hX wf_X4_55 wc_4 zd_42 zj_42_16 c9_4 zr_42_16 (by decide) dX4_leastBehind_114 ?_
      refine zv_iload hX dX4_leastBehind_117 8 rfl ?_
      refine zv_iload hX dX4_leastBehind_119 11 rfl ?_
      refine zv_iadd hX dX4_leastBehind_121 ?_
      refine zv_iload hX dX4_leastBehind_122 0 rfl ?_
      refine zv_iast hX dX4_leastBehind_124 (fun s14 => ?_)
      refine zv_iload hX dX4_leastBehind_125 0 rfl ?_
      refine zv_iload hX dX4_leastBehind_127 10 rfl ?_
      refine zv_icmp_ge (tgt := 137) hX dX4_leastBehind_129 rfl ?_ ?_
      · refine zv_iload hX dX4_leastBehind_137 10 rfl ?_
        exact zv_sub [1, 2, 3, 4, 5, 6, 7, 8, 9, 11] rfl (b_X4_leastBehind_139 hX hT hk_8 ih v1 v2 v3 v4 v5 v6 v7 v8 v10 v9 s14)
      · refine zv_iload hX dX4_leastBehind_132 0 rfl ?_
        refine zv_goto (tgt := 139) hX dX4_leastBehind_134 rfl ?_
        exact zv_sub [1, 2, 3, 4, 5, 6, 7, 8, 9, 11] rfl (b_X4_leastBehind_139 hX hT hk_8 ih v1 v2 v3 v4 v5 v6 v7 v8 v10 x13 s14)
def f_X4_leastBehind_8 : Nat → Int32 → Int32 → Int32 → Int32 → Int32 → zS → Option (Int32 × zS)
  | 0, _, _, _, _, _, _ => none
  | n + 1, v1, v2, v3, v4, v5, s =>
    if (s.1 42 14) ≤ v5 then
    (f_X4_leastBehind_209 v4 s)
    else
    if v3 ≤ v4 then
    (f_X4_leastBehind_209 v4 s)
    else
    zb (((v1 * (nI 4)) + v5) * (nI 9)) fun x15 =>
    zb (x15 + (nI 36)) fun x16 =>
    (zr_i s 55 v1).bind fun x17 =>
    (zr_i s 55 v5).bind fun x18 =>
    (zr_t 1 v2).bind fun x19 =>
    zb (((((x17 * (nI 7)) + x18) * (nI 25)) + (nI 12)) - x19) fun x20 =>
    f_X4_leastBehind_79 (f_X4_leastBehind_8 n) zFU v1 v2 v3 v4 v5 x15 x16 x20 (1000000 : Int32) (0 : Int32) s
set_option maxRecDepth 20000 in
theorem b_X4_leastBehind_8 {X : zX} (hX : zx_ok X cX4_leastBehind RX4 12) (hT : zx_rt X (some .int) (zR 0 0)) : ∀ (n : Nat) (v1 : Int32) (v2 : Int32) (v3 : Int32) (v4 : Int32) (v5 : Int32) (s : zS), zV X (zq X zrI) 12 8 [(0, .ref (zx_ad X 42)), (1, .int v1), (2, .int v2), (3, .int v3), (4, .int v4), (5, .int v5)] [] s (f_X4_leastBehind_8 n v1 v2 v3 v4 v5 s) := by
  intro n
  induction n with
  | zero => intro v1 v2 v3 v4 v5 s; exact zv_none
  | succ n ih =>
    intro v1 v2 v3 v4 v5 s
    rw [f_X4_leastBehind_8]
    refine zv_iload hX dX4_leastBehind_8 5 rfl ?_
    refine zv_aload_n hX dX4_leastBehind_10 0 rfl ?_
    refine zv_geti hX wf_X4_105 wc_4 zd_42 zj_42_14 c9_4 zr_42_14 dX4_leastBehind_11 ?_
    refine zv_icmp_ge (tgt := 209) hX dX4_leastBehind_14 rfl ?_ ?_
    · exact zv_sub [4] rfl (b_X4_leastBehind_209 hX hT v4 s)
    · refine zv_iload hX dX4_leastBehind_17 4 rfl ?_
      refine zv_iload_n hX dX4_leastBehind_19 3 rfl ?_
      refine zv_icmp_ge (tgt := 209) hX dX4_leastBehind_20 rfl ?_ ?_
      · exact zv_sub [4] rfl (b_X4_leastBehind_209 hX hT v4 s)
      · refine zv_iload_n hX dX4_leastBehind_23 1 rfl ?_
        refine zv_iconst (v := (nI 4)) hX dX4_leastBehind_24 zi_i_4 ?_
        refine zv_imul hX dX4_leastBehind_25 ?_
        refine zv_iload hX dX4_leastBehind_26 5 rfl ?_
        refine zv_iadd hX dX4_leastBehind_28 ?_
        refine zv_bipush (v := (nI 9)) hX dX4_leastBehind_29 zi_b_9 ?_
        refine zv_imul hX dX4_leastBehind_31 ?_
        refine zv_istB (lw := fun x15 => [(6, .int x15), (0, .ref (zx_ad X 42)), (1, .int v1), (2, .int v2), (3, .int v3), (4, .int v4), (5, .int v5)]) hX dX4_leastBehind_32 (by decide) (fun _ => rfl) (fun x15 => ?_)
        refine zv_iload hX dX4_leastBehind_34 0 rfl ?_
        refine zv_bipush (v := (nI 36)) hX dX4_leastBehind_36 zi_b_36 ?_
        refine zv_iadd hX dX4_leastBehind_38 ?_
        refine zv_istB (lw := fun x16 => [(7, .int x16), (6, .int x15), (0, .ref (zx_ad X 42)), (1, .int v1), (2, .int v2), (3, .int v3), (4, .int v4), (5, .int v5)]) hX dX4_leastBehind_39 (by decide) (fun _ => rfl) (fun x16 => ?_)
        refine zv_aload_n hX dX4_leastBehind_41 2 rfl ?_
        refine zv_geta hX wf_X4_49 wc_4 zd_42 zj_42_13 c9_4 zr_42_13 (by decide) dX4_leastBehind_42 ?_
        refine zv_iload_n hX dX4_leastBehind_45 3 rfl ?_
        refine zv_iald hX dX4_leastBehind_46 (fun x17 => ?_)
        refine zv_bipush (v := (nI 7)) hX dX4_leastBehind_47 zi_b_7 ?_
        refine zv_imul hX dX4_leastBehind_49 ?_
        refine zv_aload_n hX dX4_leastBehind_50 2 rfl ?_
        refine zv_geta hX wf_X4_49 wc_4 zd_42 zj_42_13 c9_4 zr_42_13 (by decide) dX4_leastBehind_51 ?_
        refine zv_iload hX dX4_leastBehind_54 7 rfl ?_
        refine zv_iald hX dX4_leastBehind_56 (fun x18 => ?_)
        refine zv_iadd hX dX4_leastBehind_57 ?_
        refine zv_bipush (v := (nI 25)) hX dX4_leastBehind_58 zi_b_25 ?_
        refine zv_imul hX dX4_leastBehind_60 ?_
        refine zv_bipush (v := (nI 12)) hX dX4_leastBehind_61 zi_b_12 ?_
        refine zv_iadd hX dX4_leastBehind_63 ?_
        refine zv_gsP hX dX4_leastBehind_64 ?_
        refine zv_iload_n hX dX4_leastBehind_67 4 rfl ?_
        refine zv_taldP hX dX4_leastBehind_68 (fun x19 => ?_)
        refine zv_isub hX dX4_leastBehind_69 ?_
        refine zv_istB (lw := fun x20 => [(8, .int x20), (7, .int x16), (6, .int x15), (0, .ref (zx_ad X 42)), (1, .int v1), (2, .int v2), (3, .int v3), (4, .int v4), (5, .int v5)]) hX dX4_leastBehind_70 (by decide) (fun _ => rfl) (fun x20 => ?_)
        refine zv_ldc hX wn_X4_96 dX4_leastBehind_72 ?_
        refine zv_istore (lv' := [(9, .int (1000000 : Int32)), (8, .int x20), (7, .int x16), (6, .int x15), (0, .ref (zx_ad X 42)), (1, .int v1), (2, .int v2), (3, .int v3), (4, .int v4), (5, .int v5)]) hX dX4_leastBehind_74 (by decide) rfl ?_
        refine zv_iconst (v := (0 : Int32)) hX dX4_leastBehind_76 zi_i_0 ?_
        refine zv_istore (lv' := [(10, .int (0 : Int32)), (9, .int (1000000 : Int32)), (8, .int x20), (7, .int x16), (6, .int x15), (0, .ref (zx_ad X 42)), (1, .int v1), (2, .int v2), (3, .int v3), (4, .int v4), (5, .int v5)]) hX dX4_leastBehind_77 (by decide) rfl ?_
        exact zv_sub [5, 6, 7, 8, 9, 10, 4, 3, 2, 1, 0] rfl (b_X4_leastBehind_79 hX hT ih zFU v1 v2 v3 v4 v5 x15 x16 x20 (1000000 : Int32) (0 : Int32) s)
def f_X4_leastBehind (v1 : Int32) (v2 : Int32) (v3 : Int32) (s : zS) : Option (Int32 × zS) :=
  zb (v1 + (1 : Int32)) fun x21 =>
  f_X4_leastBehind_8 zFU v1 v2 v3 (0 : Int32) x21 s
set_option maxRecDepth 20000 in
theorem c_X4_leastBehind (Y : zG) (v1 : Int32) (v2 : Int32) (v3 : Int32) (s : zS) : zM Y yX4_leastBehind cX4_leastBehind 12 (some .int) (zR 0 0) [.ref (zy_a Y 42), .int v1, .int v2, .int v3] s zrI (f_X4_leastBehind v1 v2 v3 s) := by
  refine zm_start (by decide +kernel) (Nat.le_of_ble_eq_true rfl) ?_
  intro X hY hT hX
  subst hY
  have hX : zx_ok X cX4_leastBehind RX4 12 := hX
  show zV X (zq X zrI) 12 0 [(0, .ref (zx_ad X 42)), (1, .int v1), (2, .int v2), (3, .int v3)] [] s _
  unfold f_X4_leastBehind
  refine zv_iconst (v := (0 : Int32)) hX dX4_leastBehind_0 zi_i_0 ?_
  refine zv_istore (lv' := [(4, .int (0 : Int32)), (0, .ref (zx_ad X 42)), (1, .int v1), (2, .int v2), (3, .int v3)]) hX dX4_leastBehind_1 (by decide) rfl ?_
  refine zv_iload_n hX dX4_leastBehind_3 2 rfl ?_
  refine zv_iconst (v := (1 : Int32)) hX dX4_leastBehind_4 zi_i_1 ?_
  refine zv_iadd hX dX4_leastBehind_5 ?_
  refine zv_istB (lw := fun x21 => [(5, .int x21), (4, .int (0 : Int32)), (0, .ref (zx_ad X 42)), (1, .int v1), (2, .int v2), (3, .int v3)]) hX dX4_leastBehind_6 (by decide) (fun _ => rfl) (fun x21 => ?_)
  exact zv_sub [2, 3, 4, 5, 1, 0] rfl (b_X4_leastBehind_8 hX hT zFU v1 v2 v3 (0 : Int32) x21 s)
