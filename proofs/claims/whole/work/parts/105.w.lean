theorem dX0_learnMatches_0 : decode cX0_learnMatches 0 = .ok (.aload_n 0, 1) := by decide +kernel
theorem dX0_learnMatches_1 : decode cX0_learnMatches 1 = .ok (.invokevirtual 57, 3) := by decide +kernel
theorem dX0_learnMatches_4 : decode cX0_learnMatches 4 = .ok (.istore_n 1, 1) := by decide +kernel
theorem dX0_learnMatches_5 : decode cX0_learnMatches 5 = .ok (.aload_n 0, 1) := by decide +kernel
theorem dX0_learnMatches_6 : decode cX0_learnMatches 6 = .ok (.getfield 61, 3) := by decide +kernel
theorem dX0_learnMatches_9 : decode cX0_learnMatches 9 = .ok (.iload_n 1, 1) := by decide +kernel
theorem dX0_learnMatches_10 : decode cX0_learnMatches 10 = .ok (.if_icmp .ne 4, 3) := by decide +kernel
theorem dX0_learnMatches_13 : decode cX0_learnMatches 13 = .ok (.return_, 1) := by decide +kernel
theorem dX0_learnMatches_14 : decode cX0_learnMatches 14 = .ok (.aload_n 0, 1) := by decide +kernel
theorem dX0_learnMatches_15 : decode cX0_learnMatches 15 = .ok (.iload_n 1, 1) := by decide +kernel
theorem dX0_learnMatches_16 : decode cX0_learnMatches 16 = .ok (.putfield 61, 3) := by decide +kernel
theorem dX0_learnMatches_19 : decode cX0_learnMatches 19 = .ok (.iconst 0, 1) := by decide +kernel
theorem dX0_learnMatches_20 : decode cX0_learnMatches 20 = .ok (.istore_n 2, 1) := by decide +kernel
theorem dX0_learnMatches_21 : decode cX0_learnMatches 21 = .ok (.iload_n 2, 1) := by decide +kernel
theorem dX0_learnMatches_22 : decode cX0_learnMatches 22 = .ok (.aload_n 0, 1) := by decide +kernel
theorem dX0_learnMatches_23 : decode cX0_learnMatches 23 = .ok (.getfield 33, 3) := by decide +kernel
theorem dX0_learnMatches_26 : decode cX0_learnMatches 26 = .ok (.getfield 65, 3) := by decide +kernel
theorem dX0_learnMatches_29 : decode cX0_learnMatches 29 = .ok (.if_icmp .ge 71, 3) := by decide +kernel
theorem dX0_learnMatches_32 : decode cX0_learnMatches 32 = .ok (.aload_n 0, 1) := by decide +kernel
theorem dX0_learnMatches_33 : decode cX0_learnMatches 33 = .ok (.getfield 9, 3) := by decide +kernel
theorem dX0_learnMatches_36 : decode cX0_learnMatches 36 = .ok (.iload_n 2, 1) := by decide +kernel
theorem dX0_learnMatches_37 : decode cX0_learnMatches 37 = .ok (.iconst 0, 1) := by decide +kernel
theorem dX0_learnMatches_38 : decode cX0_learnMatches 38 = .ok (.iastore, 1) := by decide +kernel
theorem dX0_learnMatches_39 : decode cX0_learnMatches 39 = .ok (.iconst 0, 1) := by decide +kernel
theorem dX0_learnMatches_40 : decode cX0_learnMatches 40 = .ok (.istore_n 3, 1) := by decide +kernel
theorem dX0_learnMatches_41 : decode cX0_learnMatches 41 = .ok (.iload_n 3, 1) := by decide +kernel
theorem dX0_learnMatches_42 : decode cX0_learnMatches 42 = .ok (.aload_n 0, 1) := by decide +kernel
theorem dX0_learnMatches_43 : decode cX0_learnMatches 43 = .ok (.getfield 33, 3) := by decide +kernel
theorem dX0_learnMatches_46 : decode cX0_learnMatches 46 = .ok (.getfield 65, 3) := by decide +kernel
theorem dX0_learnMatches_49 : decode cX0_learnMatches 49 = .ok (.if_icmp .ge 45, 3) := by decide +kernel
theorem dX0_learnMatches_52 : decode cX0_learnMatches 52 = .ok (.iload_n 3, 1) := by decide +kernel
theorem dX0_learnMatches_53 : decode cX0_learnMatches 53 = .ok (.iload_n 2, 1) := by decide +kernel
theorem dX0_learnMatches_54 : decode cX0_learnMatches 54 = .ok (.if_icmp .eq 34, 3) := by decide +kernel
theorem dX0_learnMatches_57 : decode cX0_learnMatches 57 = .ok (.aload_n 0, 1) := by decide +kernel
theorem dX0_learnMatches_58 : decode cX0_learnMatches 58 = .ok (.getfield 9, 3) := by decide +kernel
theorem dX0_learnMatches_61 : decode cX0_learnMatches 61 = .ok (.iload_n 2, 1) := by decide +kernel
theorem dX0_learnMatches_62 : decode cX0_learnMatches 62 = .ok (.dup2, 1) := by decide +kernel
theorem dX0_learnMatches_63 : decode cX0_learnMatches 63 = .ok (.iaload, 1) := by decide +kernel
theorem dX0_learnMatches_64 : decode cX0_learnMatches 64 = .ok (.aload_n 0, 1) := by decide +kernel
theorem dX0_learnMatches_65 : decode cX0_learnMatches 65 = .ok (.iload_n 2, 1) := by decide +kernel
theorem dX0_learnMatches_66 : decode cX0_learnMatches 66 = .ok (.iload_n 3, 1) := by decide +kernel
theorem dX0_learnMatches_67 : decode cX0_learnMatches 67 = .ok (.invokevirtual 68, 3) := by decide +kernel
theorem dX0_learnMatches_70 : decode cX0_learnMatches 70 = .ok (.ifCond .eq 9, 3) := by decide +kernel
theorem dX0_learnMatches_73 : decode cX0_learnMatches 73 = .ok (.iconst 1, 1) := by decide +kernel
theorem dX0_learnMatches_74 : decode cX0_learnMatches 74 = .ok (.iload_n 3, 1) := by decide +kernel
theorem dX0_learnMatches_75 : decode cX0_learnMatches 75 = .ok (.ishl, 1) := by decide +kernel
theorem dX0_learnMatches_76 : decode cX0_learnMatches 76 = .ok (.goto 4, 3) := by decide +kernel
theorem dX0_learnMatches_79 : decode cX0_learnMatches 79 = .ok (.iconst 0, 1) := by decide +kernel
theorem dX0_learnMatches_80 : decode cX0_learnMatches 80 = .ok (.ior, 1) := by decide +kernel
theorem dX0_learnMatches_81 : decode cX0_learnMatches 81 = .ok (.iastore, 1) := by decide +kernel
theorem dX0_learnMatches_82 : decode cX0_learnMatches 82 = .ok (.aload_n 0, 1) := by decide +kernel
theorem dX0_learnMatches_83 : decode cX0_learnMatches 83 = .ok (.iload_n 2, 1) := by decide +kernel
theorem dX0_learnMatches_84 : decode cX0_learnMatches 84 = .ok (.iload_n 3, 1) := by decide +kernel
theorem dX0_learnMatches_85 : decode cX0_learnMatches 85 = .ok (.invokevirtual 71, 3) := by decide +kernel
theorem dX0_learnMatches_88 : decode cX0_learnMatches 88 = .ok (.iinc 3 1, 3) := by decide +kernel
theorem dX0_learnMatches_91 : decode cX0_learnMatches 91 = .ok (.goto (-50), 3) := by decide +kernel
theorem dX0_learnMatches_94 : decode cX0_learnMatches 94 = .ok (.iinc 2 1, 3) := by decide +kernel
theorem dX0_learnMatches_97 : decode cX0_learnMatches 97 = .ok (.goto (-76), 3) := by decide +kernel
theorem dX0_learnMatches_100 : decode cX0_learnMatches 100 = .ok (.return_, 1) := by decide +kernel
def f_X0_learnMatches_88 (kb_21 : Int32 → zS → Option (Unit × zS)) (kb_41 : Int32 → Int32 → zS → Option (Unit × zS)) (v2 : Int32) (v3 : Int32) (s : zS) : Option (Unit × zS) :=
  zb (v3 + (1 : Int32)) fun x1 =>
  kb_41 v2 x1 s
set_option maxRecDepth 20000 in
theorem b_X0_learnMatches_88 {X : zX} {kb_21 : Int32 → zS → Option (Unit × zS)} {kb_41 : Int32 → Int32 → zS → Option (Unit × zS)} (hX : zx_ok X cX0_learnMatches RX0 4) (hT : zx_rt X none (zR 5 124)) (hk_21 : ∀ (v2 : Int32) (s : zS), zV X (zq X zrV) 4 21 [(0, .ref (zx_ad X 60)), (2, .int v2)] [] s (kb_21 v2 s)) (hk_41 : ∀ (v2 : Int32) (v3 : Int32) (s : zS), zV X (zq X zrV) 4 41 [(0, .ref (zx_ad X 60)), (2, .int v2), (3, .int v3)] [] s (kb_41 v2 v3 s)) : ∀ (v2 : Int32) (v3 : Int32) (s : zS), zV X (zq X zrV) 4 88 [(0, .ref (zx_ad X 60)), (2, .int v2), (3, .int v3)] [] s (f_X0_learnMatches_88 kb_21 kb_41 v2 v3 s) := by
  intro v2 v3 s
  unfold f_X0_learnMatches_88
  refine zv_iincB (lw := fun x1 => [(3, .int x1), (0, .ref (zx_ad X 60)), (2, .int v2)]) hX dX0_learnMatches_88 2 rfl zi_i_1 (by decide) (fun _ => rfl) (fun x1 => ?_)
  refine zv_goto (tgt := 41) hX dX0_learnMatches_91 rfl ?_
  exact zv_sub [1, 2, 0] rfl (hk_41 v2 x1 s)
def f_X0_learnMatches_80 (kb_21 : Int32 → zS → Option (Unit × zS)) (kb_41 : Int32 → Int32 → zS → Option (Unit × zS)) (v2 : Int32) (v3 : Int32) (w0 : Int32) (w1 : Int32) (w2 : Int32) (s : zS) : Option (Unit × zS) :=
  (zw_i s 61 w2 (w1 ||| w0)).bind fun s2 =>
  zbd (f_X0_learnLess v2 v3 s2) fun _ s3 =>
  f_X0_learnMatches_88 kb_21 kb_41 v2 v3 s3
set_option maxRecDepth 20000 in
theorem b_X0_learnMatches_80 {X : zX} {kb_21 : Int32 → zS → Option (Unit × zS)} {kb_41 : Int32 → Int32 → zS → Option (Unit × zS)} (hX : zx_ok X cX0_learnMatches RX0 4) (hT : zx_rt X none (zR 5 124)) (hk_21 : ∀ (v2 : Int32) (s : zS), zV X (zq X zrV) 4 21 [(0, .ref (zx_ad X 60)), (2, .int v2)] [] s (kb_21 v2 s)) (hk_41 : ∀ (v2 : Int32) (v3 : Int32) (s : zS), zV X (zq X zrV) 4 41 [(0, .ref (zx_ad X 60)), (2, .int v2), (3, .int v3)] [] s (kb_41 v2 v3 s)) : ∀ (v2 : Int32) (v3 : Int32) (w0 : Int32) (w1 : Int32) (w2 : Int32) (s : zS), zV X (zq X zrV) 4 80 [(0, .ref (zx_ad X 60)), (2, .int v2), (3, .int v3)] [.int w0, .int w1, .int w2, .ref (zx_ad X 61)] s (f_X0_learnMatches_80 kb_21 kb_41 v2 v3 w0 w1 w2 s) := by
  intro v2 v3 w0 w1 w2 s
  unfold f_X0_learnMatches_80
  refine zv_ior hX dX0_learnMatches_80 ?_
  refine zv_iast hX dX0_learnMatches_81 (fun s2 => ?_)
  refine zv_aload_n hX dX0_learnMatches_82 0 rfl ?_
  refine zv_iload_n hX dX0_learnMatches_83 1 rfl ?_
  refine zv_iload_n hX dX0_learnMatches_84 2 rfl ?_
  refine zv_cVV [.int v2, .int v3] (rest := []) hX hT.2.2.2.2 (c_X0_learnLess (zx_Y X) v2 v3 s2) wv_X0_learnLess c9_0 zd_60 wm_X0_71 rfl (Nat.le_of_ble_eq_true rfl) (Nat.le_of_ble_eq_true rfl) rfl (Nat.le_of_ble_eq_true rfl) dX0_learnMatches_85 (fun _ s3 => ?_)
  exact b_X0_learnMatches_88 hX hT hk_21 hk_41 v2 v3 s3
def f_X0_learnMatches_41 (kb_21 : Int32 → zS → Option (Unit × zS)) : Nat → Int32 → Int32 → zS → Option (Unit × zS)
  | 0, _, _, _ => none
  | n + 1, v2, v3, s =>
    if (s.1 3 0) ≤ v3 then
    (zb (v2 + (1 : Int32)) fun x4 =>
    kb_21 x4 s)
    else
    if v3 = v2 then
    (f_X0_learnMatches_88 kb_21 (f_X0_learnMatches_41 kb_21 n) v2 v3 s)
    else
    (zr_i s 61 v2).bind fun x5 =>
    zbd (f_X0_areMatching v2 v3 s) fun r6 s7 =>
    if r6 = 0 then
    (f_X0_learnMatches_80 kb_21 (f_X0_learnMatches_41 kb_21 n) v2 v3 (0 : Int32) x5 v2 s7)
    else
    f_X0_learnMatches_80 kb_21 (f_X0_learnMatches_41 kb_21 n) v2 v3 (zo_shl (1 : Int32) v3) x5 v2 s7
set_option maxRecDepth 20000 in
theorem b_X0_learnMatches_41 {X : zX} {kb_21 : Int32 → zS → Option (Unit × zS)} (hX : zx_ok X cX0_learnMatches RX0 4) (hT : zx_rt X none (zR 5 124)) (hk_21 : ∀ (v2 : Int32) (s : zS), zV X (zq X zrV) 4 21 [(0, .ref (zx_ad X 60)), (2, .int v2)] [] s (kb_21 v2 s)) : ∀ (n : Nat) (v2 : Int32) (v3 : Int32) (s : zS), zV X (zq X zrV) 4 41 [(0, .ref (zx_ad X 60)), (2, .int v2), (3, .int v3)] [] s (f_X0_learnMatches_41 kb_21 n v2 v3 s) := by
  intro n
  induction n with
  | zero => intro v2 v3 s; exact zv_none
  | succ n ih =>
    intro v2 v3 s
    rw [f_X0_learnMatches_41]
    refine zv_iload_n hX dX0_learnMatches_41 2 rfl ?_
    refine zv_aload_n hX dX0_learnMatches_42 0 rfl ?_
    refine zv_geta hX wf_X0_33 wc_0 zd_60 zj_60_0 c9_0 zr_60_0 (by decide) dX0_learnMatches_43 ?_
    refine zv_geti hX wf_X0_65 wc_5 zd_3 zj_3_0 c9_5 zr_3_0 dX0_learnMatches_46 ?_
    refine zv_icmp_ge (tgt := 94) hX dX0_learnMatches_49 rfl ?_ ?_
    · refine zv_iincB (lw := fun x4 => [(2, .int x4), (0, .ref (zx_ad X 60)), (3, .int v3)]) hX dX0_learnMatches_94 1 rfl zi_i_1 (by decide) (fun _ => rfl) (fun x4 => ?_)
      refine zv_goto (tgt := 21) hX dX0_learnMatches_97 rfl ?_
      exact zv_sub [1, 0] rfl (hk_21 x4 s)
    · refine zv_iload_n hX dX0_learnMatches_52 2 rfl ?_
      refine zv_iload_n hX dX0_learnMatches_53 1 rfl ?_
      refine zv_icmp_eq (tgt := 88) hX dX0_learnMatches_54 rfl ?_ ?_
      · exact b_X0_learnMatches_88 hX hT hk_21 ih v2 v3 s
      · refine zv_aload_n hX dX0_learnMatches_57 0 rfl ?_
        refine zv_geta hX wf_X0_9 wc_0 zd_60 zj_60_2 c9_0 zr_60_2 (by decide) dX0_learnMatches_58 ?_
        refine zv_iload_n hX dX0_learnMatches_61 1 rfl ?_
        refine zv_dup2 hX dX0_learnMatches_62 rfl rfl ?_
        refine zv_iald hX dX0_learnMatches_63 (fun x5 => ?_)
        refine zv_aload_n hX dX0_learnMatches_64 0 rfl ?_
        refine zv_iload_n hX dX0_learnMatches_65 1 rfl ?_
        refine zv_iload_n hX dX0_learnMatches_66 2 rfl ?_
        refine zv_cVI [.int v2, .int v3] (rest := [.int x5, .int v2, .ref (zx_ad X 61)]) hX hT.2.2.2.2 (c_X0_areMatching (zx_Y X) v2 v3 s) wv_X0_areMatching c9_0 zd_60 wm_X0_68 rfl (Nat.le_of_ble_eq_true rfl) (Nat.le_of_ble_eq_true rfl) rfl (Nat.le_of_ble_eq_true rfl) dX0_learnMatches_67 (fun r6 s7 => ?_)
        refine zv_if_eq (tgt := 79) hX dX0_learnMatches_70 rfl ?_ ?_
        · refine zv_iconst (v := (0 : Int32)) hX dX0_learnMatches_79 zi_i_0 ?_
          exact b_X0_learnMatches_80 hX hT hk_21 ih v2 v3 (0 : Int32) x5 v2 s7
        · refine zv_iconst (v := (1 : Int32)) hX dX0_learnMatches_73 zi_i_1 ?_
          refine zv_iload_n hX dX0_learnMatches_74 2 rfl ?_
          refine zv_ishl hX dX0_learnMatches_75 ?_
          refine zv_goto (tgt := 80) hX dX0_learnMatches_76 rfl ?_
          exact b_X0_learnMatches_80 hX hT hk_21 ih v2 v3 (zo_shl (1 : Int32) v3) x5 v2 s7
def f_X0_learnMatches_21 : Nat → Int32 → zS → Option (Unit × zS)
  | 0, _, _ => none
  | n + 1, v2, s =>
    if (s.1 3 0) ≤ v2 then
    (some ((), s))
    else
    (zw_i s 61 v2 (0 : Int32)).bind fun s8 =>
    f_X0_learnMatches_41 (f_X0_learnMatches_21 n) zFU v2 (0 : Int32) s8
set_option maxRecDepth 20000 in
theorem b_X0_learnMatches_21 {X : zX} (hX : zx_ok X cX0_learnMatches RX0 4) (hT : zx_rt X none (zR 5 124)) : ∀ (n : Nat) (v2 : Int32) (s : zS), zV X (zq X zrV) 4 21 [(0, .ref (zx_ad X 60)), (2, .int v2)] [] s (f_X0_learnMatches_21 n v2 s) := by
  intro n
  induction n with
  | zero => intro v2 s; exact zv_none
  | succ n ih =>
    intro v2 s
    rw [f_X0_learnMatches_21]
    refine zv_iload_n hX dX0_learnMatches_21 1 rfl ?_
    refine zv_aload_n hX dX0_learnMatches_22 0 rfl ?_
    refine zv_geta hX wf_X0_33 wc_0 zd_60 zj_60_0 c9_0 zr_60_0 (by decide) dX0_learnMatches_23 ?_
    refine zv_geti hX wf_X0_65 wc_5 zd_3 zj_3_0 c9_5 zr_3_0 dX0_learnMatches_26 ?_
    refine zv_icmp_ge (tgt := 100) hX dX0_learnMatches_29 rfl ?_ ?_
    · exact zv_vret hX hT dX0_learnMatches_100
    · refine zv_aload_n hX dX0_learnMatches_32 0 rfl ?_
      refine zv_geta hX wf_X0_9 wc_0 zd_60 zj_60_2 c9_0 zr_60_2 (by decide) dX0_learnMatches_33 ?_
      refine zv_iload_n hX dX0_learnMatches_36 1 rfl ?_
      refine zv_iconst (v := (0 : Int32)) hX dX0_learnMatches_37 zi_i_0 ?_
      refine zv_iast hX dX0_learnMatches_38 (fun s8 => ?_)
      refine zv_iconst (v := (0 : Int32)) hX dX0_learnMatches_39 zi_i_0 ?_
      refine zv_istore_n (lv' := [(3, .int (0 : Int32)), (0, .ref (zx_ad X 60)), (2, .int v2)]) hX dX0_learnMatches_40 (by decide) rfl ?_
      exact zv_sub [1, 2, 0] rfl (b_X0_learnMatches_41 hX hT ih zFU v2 (0 : Int32) s8)
def f_X0_learnMatches  (s : zS) : Option (Unit × zS) :=
  zbd (f_X0_ageOfAll s) fun r9 s10 =>
  if ¬ (s10.1 60 4) = r9 then
  (zb (zs_i s10 60 4 r9) fun s11 =>
  f_X0_learnMatches_21 zFU (0 : Int32) s11)
  else
  some ((), s10)
set_option maxRecDepth 20000 in
theorem c_X0_learnMatches (Y : zG)  (s : zS) : zM Y yX0_learnMatches cX0_learnMatches 4 none (zR 5 124) [.ref (zy_a Y 60)] s zrV (f_X0_learnMatches  s) := by
  refine zm_start (by decide +kernel) (Nat.le_of_ble_eq_true rfl) ?_
  intro X hY hT hX
  subst hY
  have hX : zx_ok X cX0_learnMatches RX0 4 := hX
  show zV X (zq X zrV) 4 0 [(0, .ref (zx_ad X 60))] [] s _
  unfold f_X0_learnMatches
  refine zv_aload_n hX dX0_learnMatches_0 0 rfl ?_
  refine zv_cVI [] (rest := []) hX hT.2.2.2.2 (c_X0_ageOfAll (zx_Y X) s) wv_X0_ageOfAll c9_0 zd_60 wm_X0_57 rfl (Nat.le_of_ble_eq_true rfl) (Nat.le_of_ble_eq_true rfl) rfl (Nat.le_of_ble_eq_true rfl) dX0_learnMatches_1 (fun r9 s10 => ?_)
  refine zv_istore_n (lv' := [(1, .int r9), (0, .ref (zx_ad X 60))]) hX dX0_learnMatches_4 (by decide) rfl ?_
  refine zv_aload_n hX dX0_learnMatches_5 1 rfl ?_
  refine zv_geti hX wf_X0_61 wc_0 zd_60 zj_60_4 c9_0 zr_60_4 dX0_learnMatches_6 ?_
  refine zv_iload_n hX dX0_learnMatches_9 0 rfl ?_
  refine zv_icmp_ne (tgt := 14) hX dX0_learnMatches_10 rfl ?_ ?_
  · refine zv_aload_n hX dX0_learnMatches_14 1 rfl ?_
    refine zv_iload_n hX dX0_learnMatches_15 0 rfl ?_
    refine zv_puti hX wf_X0_61 wc_0 wk_0_4 zd_60 zj_60_4 c9_0 zr_60_4 dX0_learnMatches_16 (fun s11 => ?_)
    refine zv_iconst (v := (0 : Int32)) hX dX0_learnMatches_19 zi_i_0 ?_
    refine zv_istore_n (lv' := [(2, .int (0 : Int32)), (1, .int r9), (0, .ref (zx_ad X 60))]) hX dX0_learnMatches_20 (by decide) rfl ?_
    exact zv_sub [2, 0] rfl (b_X0_learnMatches_21 hX hT zFU (0 : Int32) s11)
  · exact zv_vret hX hT dX0_learnMatches_13
theorem dX0_weightOf_0 : decode cX0_weightOf 0 = .ok (.iconst 1, 1) := by decide +kernel
theorem dX0_weightOf_1 : decode cX0_weightOf 1 = .ok (.istore_n 2, 1) := by decide +kernel
theorem dX0_weightOf_2 : decode cX0_weightOf 2 = .ok (.iconst 0, 1) := by decide +kernel
theorem dX0_weightOf_3 : decode cX0_weightOf 3 = .ok (.istore_n 3, 1) := by decide +kernel
theorem dX0_weightOf_4 : decode cX0_weightOf 4 = .ok (.iload_n 3, 1) := by decide +kernel
theorem dX0_weightOf_5 : decode cX0_weightOf 5 = .ok (.aload_n 0, 1) := by decide +kernel
theorem dX0_weightOf_6 : decode cX0_weightOf 6 = .ok (.getfield 33, 3) := by decide +kernel
theorem dX0_weightOf_9 : decode cX0_weightOf 9 = .ok (.getfield 65, 3) := by decide +kernel
theorem dX0_weightOf_12 : decode cX0_weightOf 12 = .ok (.if_icmp .ge 45, 3) := by decide +kernel
theorem dX0_weightOf_15 : decode cX0_weightOf 15 = .ok (.iload_n 2, 1) := by decide +kernel
theorem dX0_weightOf_16 : decode cX0_weightOf 16 = .ok (.iload_n 1, 1) := by decide +kernel
theorem dX0_weightOf_17 : decode cX0_weightOf 17 = .ok (.iload_n 3, 1) := by decide +kernel
theorem dX0_weightOf_18 : decode cX0_weightOf 18 = .ok (.iushr, 1) := by decide +kernel
theorem dX0_weightOf_19 : decode cX0_weightOf 19 = .ok (.iconst 1, 1) := by decide +kernel
theorem dX0_weightOf_20 : decode cX0_weightOf 20 = .ok (.iand, 1) := by decide +kernel
theorem dX0_weightOf_21 : decode cX0_weightOf 21 = .ok (.iconst 1, 1) := by decide +kernel
theorem dX0_weightOf_22 : decode cX0_weightOf 22 = .ok (.if_icmp .ne 18, 3) := by decide +kernel
theorem dX0_weightOf_25 : decode cX0_weightOf 25 = .ok (.bipush 10, 2) := by decide +kernel
theorem dX0_weightOf_27 : decode cX0_weightOf 27 = .ok (.aload_n 0, 1) := by decide +kernel
theorem dX0_weightOf_28 : decode cX0_weightOf 28 = .ok (.getfield 33, 3) := by decide +kernel
theorem dX0_weightOf_31 : decode cX0_weightOf 31 = .ok (.getfield 134, 3) := by decide +kernel
theorem dX0_weightOf_34 : decode cX0_weightOf 34 = .ok (.iload_n 3, 1) := by decide +kernel
theorem dX0_weightOf_35 : decode cX0_weightOf 35 = .ok (.iaload, 1) := by decide +kernel
theorem dX0_weightOf_36 : decode cX0_weightOf 36 = .ok (.isub, 1) := by decide +kernel
theorem dX0_weightOf_37 : decode cX0_weightOf 37 = .ok (.goto 12, 3) := by decide +kernel
theorem dX0_weightOf_40 : decode cX0_weightOf 40 = .ok (.aload_n 0, 1) := by decide +kernel
theorem dX0_weightOf_41 : decode cX0_weightOf 41 = .ok (.getfield 33, 3) := by decide +kernel
theorem dX0_weightOf_44 : decode cX0_weightOf 44 = .ok (.getfield 134, 3) := by decide +kernel
theorem dX0_weightOf_47 : decode cX0_weightOf 47 = .ok (.iload_n 3, 1) := by decide +kernel
theorem dX0_weightOf_48 : decode cX0_weightOf 48 = .ok (.iaload, 1) := by decide +kernel
theorem dX0_weightOf_49 : decode cX0_weightOf 49 = .ok (.imul, 1) := by decide +kernel
theorem dX0_weightOf_50 : decode cX0_weightOf 50 = .ok (.istore_n 2, 1) := by decide +kernel
theorem dX0_weightOf_51 : decode cX0_weightOf 51 = .ok (.iinc 3 1, 3) := by decide +kernel
theorem dX0_weightOf_54 : decode cX0_weightOf 54 = .ok (.goto (-50), 3) := by decide +kernel
theorem dX0_weightOf_57 : decode cX0_weightOf 57 = .ok (.iload_n 2, 1) := by decide +kernel
theorem dX0_weightOf_58 : decode cX0_weightOf 58 = .ok (.ireturn, 1) := by decide +kernel
def f_X0_weightOf_49 (kb_4 : Int32 → Int32 → Int32 → zS → Option (Int32 × zS)) (v1 : Int32) (v3 : Int32) (w0 : Int32) (w1 : Int32) (s : zS) : Option (Int32 × zS) :=
  zb (w1 * w0) fun x1 =>
  zb (v3 + (1 : Int32)) fun x2 =>
  kb_4 v1 x1 x2 s
set_option maxRecDepth 20000 in
theorem b_X0_weightOf_49 {X : zX} {kb_4 : Int32 → Int32 → Int32 → zS → Option (Int32 × zS)} (hX : zx_ok X cX0_weightOf RX0 4) (hT : zx_rt X (some .int) (zR 0 0)) (hk_4 : ∀ (v1 : Int32) (v2 : Int32) (v3 : Int32) (s : zS), zV X (zq X zrI) 4 4 [(0, .ref (zx_ad X 60)), (1, .int v1), (2, .int v2), (3, .int v3)] [] s (kb_4 v1 v2 v3 s)) : ∀ (v1 : Int32) (v3 : Int32) (w0 : Int32) (w1 : Int32) (s : zS), zV X (zq X zrI) 4 49 [(0, .ref (zx_ad X 60)), (1, .int v1), (3, .int v3)] [.int w0, .int w1] s (f_X0_weightOf_49 kb_4 v1 v3 w0 w1 s) := by
  intro v1 v3 w0 w1 s
  unfold f_X0_weightOf_49
  refine zv_imul hX dX0_weightOf_49 ?_
  refine zv_istB_n (lw := fun x1 => [(2, .int x1), (0, .ref (zx_ad X 60)), (1, .int v1), (3, .int v3)]) hX dX0_weightOf_50 (by decide) (fun _ => rfl) (fun x1 => ?_)
  refine zv_iincB (lw := fun x2 => [(3, .int x2), (2, .int x1), (0, .ref (zx_ad X 60)), (1, .int v1)]) hX dX0_weightOf_51 3 rfl zi_i_1 (by decide) (fun _ => rfl) (fun x2 => ?_)
  refine zv_goto (tgt := 4) hX dX0_weightOf_54 rfl ?_
  exact zv_sub [2, 3, 1, 0] rfl (hk_4 v1 x1 x2 s)
def f_X0_weightOf_4 : Nat → Int32 → Int32 → Int32 → zS → Option (Int32 × zS)
  | 0, _, _, _, _ => none
  | n + 1, v1, v2, v3, s =>
    if (s.1 3 0) ≤ v3 then
    (some (v2, s))
    else
    if ¬ ((zo_ush v1 v3) &&& (1 : Int32)) = (1 : Int32) then
    ((zr_i s 6 v3).bind fun x3 =>
    f_X0_weightOf_49 (f_X0_weightOf_4 n) v1 v3 x3 v2 s)
    else
    (zr_i s 6 v3).bind fun x4 =>
    f_X0_weightOf_49 (f_X0_weightOf_4 n) v1 v3 ((nI 10) - x4) v2 s
set_option maxRecDepth 20000 in
theorem b_X0_weightOf_4 {X : zX} (hX : zx_ok X cX0_weightOf RX0 4) (hT : zx_rt X (some .int) (zR 0 0)) : ∀ (n : Nat) (v1 : Int32) (v2 : Int32) (v3 : Int32) (s : zS), zV X (zq X zrI) 4 4 [(0, .ref (zx_ad X 60)), (1, .int v1), (2, .int v2), (3, .int v3)] [] s (f_X0_weightOf_4 n v1 v2 v3 s) := by
  intro n
  induction n with
  | zero => intro v1 v2 v3 s; exact zv_none
  | succ n ih =>
    intro v1 v2 v3 s
    rw [f_X0_weightOf_4]
    refine zv_iload_n hX dX0_weightOf_4 3 rfl ?_
    refine zv_aload_n hX dX0_weightOf_5 0 rfl ?_
    refine zv_geta hX wf_X0_33 wc_0 zd_60 zj_60_0 c9_0 zr_60_0 (by decide) dX0_weightOf_6 ?_
    refine zv_geti hX wf_X0_65 wc_5 zd_3 zj_3_0 c9_5 zr_3_0 dX0_weightOf_9 ?_
    refine zv_icmp_ge (tgt := 57) hX dX0_weightOf_12 rfl ?_ ?_
    · refine zv_iload_n hX dX0_weightOf_57 2 rfl ?_
      exact zv_ireti hX hT dX0_weightOf_58
    · refine zv_iload_n hX dX0_weightOf_15 2 rfl ?_
      refine zv_iload_n hX dX0_weightOf_16 1 rfl ?_
      refine zv_iload_n hX dX0_weightOf_17 3 rfl ?_
      refine zv_iushr hX dX0_weightOf_18 ?_
      refine zv_iconst (v := (1 : Int32)) hX dX0_weightOf_19 zi_i_1 ?_
      refine zv_iand hX dX0_weightOf_20 ?_
      refine zv_iconst (v := (1 : Int32)) hX dX0_weightOf_21 zi_i_1 ?_
      refine zv_icmp_ne (tgt := 40) hX dX0_weightOf_22 rfl ?_ ?_
      · refine zv_aload_n hX dX0_weightOf_40 0 rfl ?_
        refine zv_geta hX wf_X0_33 wc_0 zd_60 zj_60_0 c9_0 zr_60_0 (by decide) dX0_weightOf_41 ?_
        refine zv_geta hX wf_X0_134 wc_5 zd_3 zj_3_4 c9_5 zr_3_4 (by decide) dX0_weightOf_44 ?_
        refine zv_iload_n hX dX0_weightOf_47 3 rfl ?_
        refine zv_iald hX dX0_weightOf_48 (fun x3 => ?_)
        exact zv_sub [0, 1, 3] rfl (b_X0_weightOf_49 hX hT ih v1 v3 x3 v2 s)
      · refine zv_bipush (v := (nI 10)) hX dX0_weightOf_25 zi_b_10 ?_
        refine zv_aload_n hX dX0_weightOf_27 0 rfl ?_
        refine zv_geta hX wf_X0_33 wc_0 zd_60 zj_60_0 c9_0 zr_60_0 (by decide) dX0_weightOf_28 ?_
        refine zv_geta hX wf_X0_134 wc_5 zd_3 zj_3_4 c9_5 zr_3_4 (by decide) dX0_weightOf_31 ?_
        refine zv_iload_n hX dX0_weightOf_34 3 rfl ?_
        refine zv_iald hX dX0_weightOf_35 (fun x4 => ?_)
        refine zv_isub hX dX0_weightOf_36 ?_
        refine zv_goto (tgt := 49) hX dX0_weightOf_37 rfl ?_
        exact zv_sub [0, 1, 3] rfl (b_X0_weightOf_49 hX hT ih v1 v3 ((nI 10) - x4) v2 s)
def f_X0_weightOf (v1 : Int32) (s : zS) : Option (Int32 × zS) :=
  f_X0_weightOf_4 zFU v1 (1 : Int32) (0 : Int32) s
set_option maxRecDepth 20000 in
theorem c_X0_weightOf (Y : zG) (v1 : Int32) (s : zS) : zM Y yX0_weightOf cX0_weightOf 4 (some .int) (zR 0 0) [.ref (zy_a Y 60), .int v1] s zrI (f_X0_weightOf v1 s) := by
  refine zm_start (by decide +kernel) (Nat.le_of_ble_eq_true rfl) ?_
  intro X hY hT hX
  subst hY
  have hX : zx_ok X cX0_weightOf RX0 4 := hX
  show zV X (zq X zrI) 4 0 [(0, .ref (zx_ad X 60)), (1, .int v1)] [] s _
  unfold f_X0_weightOf
  refine zv_iconst (v := (1 : Int32)) hX dX0_weightOf_0 zi_i_1 ?_
  refine zv_istore_n (lv' := [(2, .int (1 : Int32)), (0, .ref (zx_ad X 60)), (1, .int v1)]) hX dX0_weightOf_1 (by decide) rfl ?_
  refine zv_iconst (v := (0 : Int32)) hX dX0_weightOf_2 zi_i_0 ?_
  refine zv_istore_n (lv' := [(3, .int (0 : Int32)), (2, .int (1 : Int32)), (0, .ref (zx_ad X 60)), (1, .int v1)]) hX dX0_weightOf_3 (by decide) rfl ?_
  exact zv_sub [2, 3, 1, 0] rfl (b_X0_weightOf_4 hX hT zFU v1 (1 : Int32) (0 : Int32) s)
theorem dX5_everybody_0 : decode cX5_everybody 0 = .ok (.iconst 1, 1) := by decide +kernel
theorem dX5_everybody_1 : decode cX5_everybody 1 = .ok (.aload_n 0, 1) := by decide +kernel
theorem dX5_everybody_2 : decode cX5_everybody 2 = .ok (.getfield 42, 3) := by decide +kernel
theorem dX5_everybody_5 : decode cX5_everybody 5 = .ok (.ishl, 1) := by decide +kernel
theorem dX5_everybody_6 : decode cX5_everybody 6 = .ok (.iconst 1, 1) := by decide +kernel
theorem dX5_everybody_7 : decode cX5_everybody 7 = .ok (.isub, 1) := by decide +kernel
theorem dX5_everybody_8 : decode cX5_everybody 8 = .ok (.ireturn, 1) := by decide +kernel
def f_X5_everybody_3  (s : zS) : Option (Int32 × zS) :=
  some ((zo_shl (1 : Int32) (s.1 3 0)) - (1 : Int32), s)
set_option maxRecDepth 20000 in
theorem c_X5_everybody_3 (Y : zG)  (s : zS) : zM Y yX5_everybody cX5_everybody 1 (some .int) (zR 0 0) [.ref (zy_a Y 3)] s zrI (f_X5_everybody_3  s) := by
  refine zm_start (by decide +kernel) (Nat.le_of_ble_eq_true rfl) ?_
  intro X hY hT hX
  subst hY
  have hX : zx_ok X cX5_everybody RX5 1 := hX
  show zV X (zq X zrI) 1 0 [(0, .ref (zx_ad X 3))] [] s _
  unfold f_X5_everybody_3
  refine zv_iconst (v := (1 : Int32)) hX dX5_everybody_0 zi_i_1 ?_
  refine zv_aload_n hX dX5_everybody_1 0 rfl ?_
  refine zv_geti hX wf_X5_42 wc_5 zd_3 zj_3_0 c9_5 zr_3_0 dX5_everybody_2 ?_
  refine zv_ishl hX dX5_everybody_5 ?_
  refine zv_iconst (v := (1 : Int32)) hX dX5_everybody_6 zi_i_1 ?_
  refine zv_isub hX dX5_everybody_7 ?_
  exact zv_ireti hX hT dX5_everybody_8
theorem dJ7_fill_53178_0 : decode cJ7_fill_53178 0 = .ok (.iconst 0, 1) := by decide +kernel
theorem dJ7_fill_53178_1 : decode cJ7_fill_53178 1 = .ok (.istore_n 2, 1) := by decide +kernel
theorem dJ7_fill_53178_2 : decode cJ7_fill_53178 2 = .ok (.aload_n 0, 1) := by decide +kernel
theorem dJ7_fill_53178_3 : decode cJ7_fill_53178 3 = .ok (.arraylength, 1) := by decide +kernel
theorem dJ7_fill_53178_4 : decode cJ7_fill_53178 4 = .ok (.istore_n 3, 1) := by decide +kernel
theorem dJ7_fill_53178_5 : decode cJ7_fill_53178 5 = .ok (.iload_n 2, 1) := by decide +kernel
theorem dJ7_fill_53178_6 : decode cJ7_fill_53178 6 = .ok (.iload_n 3, 1) := by decide +kernel
theorem dJ7_fill_53178_7 : decode cJ7_fill_53178 7 = .ok (.if_icmp .ge 13, 3) := by decide +kernel
theorem dJ7_fill_53178_10 : decode cJ7_fill_53178 10 = .ok (.aload_n 0, 1) := by decide +kernel
theorem dJ7_fill_53178_11 : decode cJ7_fill_53178 11 = .ok (.iload_n 2, 1) := by decide +kernel
theorem dJ7_fill_53178_12 : decode cJ7_fill_53178 12 = .ok (.iload_n 1, 1) := by decide +kernel
theorem dJ7_fill_53178_13 : decode cJ7_fill_53178 13 = .ok (.iastore, 1) := by decide +kernel
theorem dJ7_fill_53178_14 : decode cJ7_fill_53178 14 = .ok (.iinc 2 1, 3) := by decide +kernel
theorem dJ7_fill_53178_17 : decode cJ7_fill_53178 17 = .ok (.goto (-12), 3) := by decide +kernel
theorem dJ7_fill_53178_20 : decode cJ7_fill_53178 20 = .ok (.return_, 1) := by decide +kernel
def f_J7_fill_53178_5 : Nat → Nat → Int32 → Int32 → Int32 → zS → Option (Unit × zS)
  | 0, _, _, _, _, _ => none
  | n + 1, v0, v1, v2, v3, s =>
    if v3 ≤ v2 then
    (some ((), s))
    else
    (zw_i s v0 v2 v1).bind fun s1 =>
    zb (v2 + (1 : Int32)) fun x2 =>
    f_J7_fill_53178_5 n v0 v1 x2 v3 s1
set_option maxRecDepth 20000 in
theorem b_J7_fill_53178_5 {X : zX} (hX : zx_ok X cJ7_fill_53178 RJ7 4) (hT : zx_rt X none (zR 0 0)) : ∀ (n : Nat) (v0 : Nat) (v1 : Int32) (v2 : Int32) (v3 : Int32) (s : zS), zV X (zq X zrV) 4 5 [(0, .ref (zx_ad X v0)), (1, .int v1), (2, .int v2), (3, .int v3)] [] s (f_J7_fill_53178_5 n v0 v1 v2 v3 s) := by
  intro n
  induction n with
  | zero => intro v0 v1 v2 v3 s; exact zv_none
  | succ n ih =>
    intro v0 v1 v2 v3 s
    rw [f_J7_fill_53178_5]
    refine zv_iload_n hX dJ7_fill_53178_5 2 rfl ?_
    refine zv_iload_n hX dJ7_fill_53178_6 3 rfl ?_
    refine zv_icmp_ge (tgt := 20) hX dJ7_fill_53178_7 rfl ?_ ?_
    · exact zv_vret hX hT dJ7_fill_53178_20
    · refine zv_aload_n hX dJ7_fill_53178_10 0 rfl ?_
      refine zv_iload_n hX dJ7_fill_53178_11 2 rfl ?_
      refine zv_iload_n hX dJ7_fill_53178_12 1 rfl ?_
      refine zv_iast hX dJ7_fill_53178_13 (fun s1 => ?_)
      refine zv_iincB (lw := fun x2 => [(2, .int x2), (0, .ref (zx_ad X v0)), (1, .int v1), (3, .int v3)]) hX dJ7_fill_53178_14 2 rfl zi_i_1 (by decide) (fun _ => rfl) (fun x2 => ?_)
      refine zv_goto (tgt := 5) hX dJ7_fill_53178_17 rfl ?_
      exact zv_sub [1, 2, 0, 3] rfl (ih v0 v1 x2 v3 s1)
def f_J7_fill_53178 (v0 : Nat) (v1 : Int32) (s : zS) : Option (Unit × zS) :=
  if zk_d v0 = 0 then
  (zb (nI (zk_n v0)) fun x3 =>
  f_J7_fill_53178_5 zFU v0 v1 (0 : Int32) x3 s)
  else none
set_option maxRecDepth 20000 in
theorem c_J7_fill_53178 (Y : zG) (v0 : Nat) (v1 : Int32) (s : zS) : zM Y yJ7_fill_53178 cJ7_fill_53178 4 none (zR 0 0) [.ref (zy_a Y v0), .int v1] s zrV (f_J7_fill_53178 v0 v1 s) := by
  refine zm_startJ (by decide +kernel) (Nat.le_of_ble_eq_true rfl) ?_
  intro X hY hT hX
  subst hY
  have hX : zx_ok X cJ7_fill_53178 RJ7 4 := hX
  show zV X (zq X zrV) 4 0 [(0, .ref (zx_ad X v0)), (1, .int v1)] [] s _
  unfold f_J7_fill_53178
  refine zv_iconst (v := (0 : Int32)) hX dJ7_fill_53178_0 zi_i_0 ?_
  refine zv_istore_n (lv' := [(2, .int (0 : Int32)), (0, .ref (zx_ad X v0)), (1, .int v1)]) hX dJ7_fill_53178_1 (by decide) rfl ?_
  refine zv_aload_n hX dJ7_fill_53178_2 1 rfl ?_
  refine zv_alen hX dJ7_fill_53178_3 (fun x3 => ?_)
  refine zv_istore_n (lv' := [(3, .int x3), (2, .int (0 : Int32)), (0, .ref (zx_ad X v0)), (1, .int v1)]) hX dJ7_fill_53178_4 (by decide) rfl ?_
  exact zv_sub [2, 3, 1, 0] rfl (b_J7_fill_53178_5 hX hT zFU v0 v1 (0 : Int32) x3 s)
theorem dX0_learnChances_0 : decode cX0_learnChances 0 = .ok (.aload_n 0, 1) := by decide +kernel
theorem dX0_learnChances_1 : decode cX0_learnChances 1 = .ok (.invokevirtual 57, 3) := by decide +kernel
theorem dX0_learnChances_4 : decode cX0_learnChances 4 = .ok (.istore_n 1, 1) := by decide +kernel
theorem dX0_learnChances_5 : decode cX0_learnChances 5 = .ok (.aload_n 0, 1) := by decide +kernel
theorem dX0_learnChances_6 : decode cX0_learnChances 6 = .ok (.getfield 118, 3) := by decide +kernel
theorem dX0_learnChances_9 : decode cX0_learnChances 9 = .ok (.iload_n 1, 1) := by decide +kernel
theorem dX0_learnChances_10 : decode cX0_learnChances 10 = .ok (.if_icmp .ne 4, 3) := by decide +kernel
theorem dX0_learnChances_13 : decode cX0_learnChances 13 = .ok (.return_, 1) := by decide +kernel
theorem dX0_learnChances_14 : decode cX0_learnChances 14 = .ok (.aload_n 0, 1) := by decide +kernel
theorem dX0_learnChances_15 : decode cX0_learnChances 15 = .ok (.iload_n 1, 1) := by decide +kernel
theorem dX0_learnChances_16 : decode cX0_learnChances 16 = .ok (.putfield 118, 3) := by decide +kernel
theorem dX0_learnChances_19 : decode cX0_learnChances 19 = .ok (.aload_n 0, 1) := by decide +kernel
theorem dX0_learnChances_20 : decode cX0_learnChances 20 = .ok (.invokevirtual 79, 3) := by decide +kernel
theorem dX0_learnChances_23 : decode cX0_learnChances 23 = .ok (.aload_n 0, 1) := by decide +kernel
theorem dX0_learnChances_24 : decode cX0_learnChances 24 = .ok (.getfield 27, 3) := by decide +kernel
theorem dX0_learnChances_27 : decode cX0_learnChances 27 = .ok (.iconst 0, 1) := by decide +kernel
theorem dX0_learnChances_28 : decode cX0_learnChances 28 = .ok (.invokestatic 121, 3) := by decide +kernel
theorem dX0_learnChances_31 : decode cX0_learnChances 31 = .ok (.iconst 0, 1) := by decide +kernel
theorem dX0_learnChances_32 : decode cX0_learnChances 32 = .ok (.istore_n 2, 1) := by decide +kernel
theorem dX0_learnChances_33 : decode cX0_learnChances 33 = .ok (.iload_n 2, 1) := by decide +kernel
theorem dX0_learnChances_34 : decode cX0_learnChances 34 = .ok (.aload_n 0, 1) := by decide +kernel
theorem dX0_learnChances_35 : decode cX0_learnChances 35 = .ok (.getfield 33, 3) := by decide +kernel
theorem dX0_learnChances_38 : decode cX0_learnChances 38 = .ok (.invokevirtual 95, 3) := by decide +kernel
theorem dX0_learnChances_41 : decode cX0_learnChances 41 = .ok (.if_icmp .gt 30, 3) := by decide +kernel
theorem dX0_learnChances_44 : decode cX0_learnChances 44 = .ok (.aload_n 0, 1) := by decide +kernel
theorem dX0_learnChances_45 : decode cX0_learnChances 45 = .ok (.iload_n 2, 1) := by decide +kernel
theorem dX0_learnChances_46 : decode cX0_learnChances 46 = .ok (.invokevirtual 127, 3) := by decide +kernel
theorem dX0_learnChances_49 : decode cX0_learnChances 49 = .ok (.istore_n 3, 1) := by decide +kernel
theorem dX0_learnChances_50 : decode cX0_learnChances 50 = .ok (.iload_n 3, 1) := by decide +kernel
theorem dX0_learnChances_51 : decode cX0_learnChances 51 = .ok (.ifCond .le 14, 3) := by decide +kernel
theorem dX0_learnChances_54 : decode cX0_learnChances 54 = .ok (.aload_n 0, 1) := by decide +kernel
theorem dX0_learnChances_55 : decode cX0_learnChances 55 = .ok (.iload_n 2, 1) := by decide +kernel
theorem dX0_learnChances_56 : decode cX0_learnChances 56 = .ok (.iconst 1, 1) := by decide +kernel
theorem dX0_learnChances_57 : decode cX0_learnChances 57 = .ok (.invokevirtual 98, 3) := by decide +kernel
theorem dX0_learnChances_60 : decode cX0_learnChances 60 = .ok (.aload_n 0, 1) := by decide +kernel
theorem dX0_learnChances_61 : decode cX0_learnChances 61 = .ok (.iload_n 3, 1) := by decide +kernel
theorem dX0_learnChances_62 : decode cX0_learnChances 62 = .ok (.invokevirtual 130, 3) := by decide +kernel
theorem dX0_learnChances_65 : decode cX0_learnChances 65 = .ok (.iinc 2 1, 3) := by decide +kernel
theorem dX0_learnChances_68 : decode cX0_learnChances 68 = .ok (.goto (-35), 3) := by decide +kernel
theorem dX0_learnChances_71 : decode cX0_learnChances 71 = .ok (.return_, 1) := by decide +kernel
def f_X0_learnChances_65 (kb_33 : Int32 → zS → Option (Unit × zS)) (v2 : Int32) (s : zS) : Option (Unit × zS) :=
  zb (v2 + (1 : Int32)) fun x1 =>
  kb_33 x1 s
set_option maxRecDepth 20000 in
theorem b_X0_learnChances_65 {X : zX} {kb_33 : Int32 → zS → Option (Unit × zS)} (hX : zx_ok X cX0_learnChances RX0 4) (hT : zx_rt X none (zR 69 1717)) (hk_33 : ∀ (v2 : Int32) (s : zS), zV X (zq X zrV) 4 33 [(0, .ref (zx_ad X 60)), (2, .int v2)] [] s (kb_33 v2 s)) : ∀ (v2 : Int32) (s : zS), zV X (zq X zrV) 4 65 [(0, .ref (zx_ad X 60)), (2, .int v2)] [] s (f_X0_learnChances_65 kb_33 v2 s) := by
  intro v2 s
  unfold f_X0_learnChances_65
  refine zv_iincB (lw := fun x1 => [(2, .int x1), (0, .ref (zx_ad X 60))]) hX dX0_learnChances_65 1 rfl zi_i_1 (by decide) (fun _ => rfl) (fun x1 => ?_)
  refine zv_goto (tgt := 33) hX dX0_learnChances_68 rfl ?_
  exact zv_sub [1, 0] rfl (hk_33 x1 s)
def f_X0_learnChances_33 : Nat → Int32 → zS → Option (Unit × zS)
  | 0, _, _ => none
  | n + 1, v2, s =>
    zbd (f_X5_everybody_3 s) fun r2 s3 =>
    if r2 < v2 then
    (some ((), s3))
    else
    zbd (f_X0_weightOf v2 s3) fun r4 s5 =>
    if r4 ≤ 0 then
    (f_X0_learnChances_65 (f_X0_learnChances_33 n) v2 s5)
    else
    zbd (f_X0_findPairings v2 (1 : Int32) s5) fun _ s6 =>
    zbd (f_X0_addTogether r4 s6) fun _ s7 =>
    f_X0_learnChances_65 (f_X0_learnChances_33 n) v2 s7
set_option maxRecDepth 20000 in
theorem b_X0_learnChances_33 {X : zX} (hX : zx_ok X cX0_learnChances RX0 4) (hT : zx_rt X none (zR 69 1717)) : ∀ (n : Nat) (v2 : Int32) (s : zS), zV X (zq X zrV) 4 33 [(0, .ref (zx_ad X 60)), (2, .int v2)] [] s (f_X0_learnChances_33 n v2 s) := by
  intro n
  induction n with
  | zero => intro v2 s; exact zv_none
  | succ n ih =>
    intro v2 s
    rw [f_X0_learnChances_33]
    refine zv_iload_n hX dX0_learnChances_33 1 rfl ?_
    refine zv_aload_n hX dX0_learnChances_34 0 rfl ?_
    refine zv_geta hX wf_X0_33 wc_0 zd_60 zj_60_0 c9_0 zr_60_0 (by decide) dX0_learnChances_35 ?_
    refine zv_cVI [] (rest := [.int v2]) hX hT.2.2.2.2 (c_X5_everybody_3 (zx_Y X) s) wv_X5_everybody c9_5 zd_3 wm_X0_95 rfl (Nat.le_of_ble_eq_true rfl) (Nat.le_of_ble_eq_true rfl) rfl (Nat.le_of_ble_eq_true rfl) dX0_learnChances_38 (fun r2 s3 => ?_)
    refine zv_icmp_gt (tgt := 71) hX dX0_learnChances_41 rfl ?_ ?_
    · exact zv_vret hX hT dX0_learnChances_71
    · refine zv_aload_n hX dX0_learnChances_44 0 rfl ?_
      refine zv_iload_n hX dX0_learnChances_45 1 rfl ?_
      refine zv_cVI [.int v2] (rest := []) hX hT.2.2.2.2 (c_X0_weightOf (zx_Y X) v2 s3) wv_X0_weightOf c9_0 zd_60 wm_X0_127 rfl (Nat.le_of_ble_eq_true rfl) (Nat.le_of_ble_eq_true rfl) rfl (Nat.le_of_ble_eq_true rfl) dX0_learnChances_46 (fun r4 s5 => ?_)
      refine zv_istore_n (lv' := [(3, .int r4), (0, .ref (zx_ad X 60)), (2, .int v2)]) hX dX0_learnChances_49 (by decide) rfl ?_
      refine zv_iload_n hX dX0_learnChances_50 0 rfl ?_
      refine zv_if_le (tgt := 65) hX dX0_learnChances_51 rfl ?_ ?_
      · exact zv_sub [1, 2] rfl (b_X0_learnChances_65 hX hT ih v2 s5)
      · refine zv_aload_n hX dX0_learnChances_54 1 rfl ?_
        refine zv_iload_n hX dX0_learnChances_55 2 rfl ?_
        refine zv_iconst (v := (1 : Int32)) hX dX0_learnChances_56 zi_i_1 ?_
        refine zv_cVV [.int v2, .int (1 : Int32)] (rest := []) hX hT.2.2.2.2 (c_X0_findPairings (zx_Y X) v2 (1 : Int32) s5) wv_X0_findPairings c9_0 zd_60 wm_X0_98 rfl (Nat.le_of_ble_eq_true rfl) (Nat.le_of_ble_eq_true rfl) rfl (Nat.le_of_ble_eq_true rfl) dX0_learnChances_57 (fun _ s6 => ?_)
        refine zv_aload_n hX dX0_learnChances_60 1 rfl ?_
        refine zv_iload_n hX dX0_learnChances_61 0 rfl ?_
        refine zv_cVV [.int r4] (rest := []) hX hT.2.2.2.2 (c_X0_addTogether (zx_Y X) r4 s6) wv_X0_addTogether c9_0 zd_60 wm_X0_130 rfl (Nat.le_of_ble_eq_true rfl) (Nat.le_of_ble_eq_true rfl) rfl (Nat.le_of_ble_eq_true rfl) dX0_learnChances_62 (fun _ s7 => ?_)
        exact zv_sub [1, 2] rfl (b_X0_learnChances_65 hX hT ih v2 s7)
def f_X0_learnChances  (s : zS) : Option (Unit × zS) :=
  zbd (f_X0_ageOfAll s) fun r8 s9 =>
  if ¬ (s9.1 60 12) = r8 then
  (zb (zs_i s9 60 12 r8) fun s10 =>
  zbd (f_X0_learnMatches s10) fun _ s11 =>
  zbd (f_J7_fill_53178 66 (0 : Int32) s11) fun _ s12 =>
  f_X0_learnChances_33 zFU (0 : Int32) s12)
  else
  some ((), s9)
set_option maxRecDepth 20000 in
theorem c_X0_learnChances (Y : zG)  (s : zS) : zM Y yX0_learnChances cX0_learnChances 4 none (zR 69 1717) [.ref (zy_a Y 60)] s zrV (f_X0_learnChances  s) := by
  refine zm_start (by decide +kernel) (Nat.le_of_ble_eq_true rfl) ?_
  intro X hY hT hX
  subst hY
  have hX : zx_ok X cX0_learnChances RX0 4 := hX
  show zV X (zq X zrV) 4 0 [(0, .ref (zx_ad X 60))] [] s _
  unfold f_X0_learnChances
  refine zv_aload_n hX dX0_learnChances_0 0 rfl ?_
  refine zv_cVI [] (rest := []) hX hT.2.2.2.2 (c_X0_ageOfAll (zx_Y X) s) wv_X0_ageOfAll c9_0 zd_60 wm_X0_57 rfl (Nat.le_of_ble_eq_true rfl) (Nat.le_of_ble_eq_true rfl) rfl (Nat.le_of_ble_eq_true rfl) dX0_learnChances_1 (fun r8 s9 => ?_)
  refine zv_istore_n (lv' := [(1, .int r8), (0, .ref (zx_ad X 60))]) hX dX0_learnChances_4 (by decide) rfl ?_
  refine zv_aload_n hX dX0_learnChances_5 1 rfl ?_
  refine zv_geti hX wf_X0_118 wc_0 zd_60 zj_60_12 c9_0 zr_60_12 dX0_learnChances_6 ?_
  refine zv_iload_n hX dX0_learnChances_9 0 rfl ?_
  refine zv_icmp_ne (tgt := 14) hX dX0_learnChances_10 rfl ?_ ?_
  · refine zv_aload_n hX dX0_learnChances_14 1 rfl ?_
    refine zv_iload_n hX dX0_learnChances_15 0 rfl ?_
    refine zv_puti hX wf_X0_118 wc_0 wk_0_12 zd_60 zj_60_12 c9_0 zr_60_12 dX0_learnChances_16 (fun s10 => ?_)
    refine zv_aload_n hX dX0_learnChances_19 1 rfl ?_
    refine zv_cVV [] (rest := []) hX hT.2.2.2.2 (c_X0_learnMatches (zx_Y X) s10) wv_X0_learnMatches c9_0 zd_60 wm_X0_79 rfl (Nat.le_of_ble_eq_true rfl) (Nat.le_of_ble_eq_true rfl) rfl (Nat.le_of_ble_eq_true rfl) dX0_learnChances_20 (fun _ s11 => ?_)
    refine zv_aload_n hX dX0_learnChances_23 1 rfl ?_
    refine zv_geta hX wf_X0_27 wc_0 zd_60 zj_60_11 c9_0 zr_60_11 (by decide) dX0_learnChances_24 ?_
    refine zv_iconst (v := (0 : Int32)) hX dX0_learnChances_27 zi_i_0 ?_
    refine zv_cSV [.ref (zx_ad X 66), .int (0 : Int32)] (rest := []) hX hT.2.2.2.2 (c_J7_fill_53178 (zx_Y X) 66 (0 : Int32) s11) wv_J7_fill_53178 wm_X0_121 rfl (Nat.le_of_ble_eq_true rfl) (Nat.le_of_ble_eq_true rfl) rfl (Nat.le_of_ble_eq_true rfl) dX0_learnChances_28 (fun _ s12 => ?_)
    refine zv_iconst (v := (0 : Int32)) hX dX0_learnChances_31 zi_i_0 ?_
    refine zv_istore_n (lv' := [(2, .int (0 : Int32)), (1, .int r8), (0, .ref (zx_ad X 60))]) hX dX0_learnChances_32 (by decide) rfl ?_
    exact zv_sub [2, 0] rfl (b_X0_learnChances_33 hX hT zFU (0 : Int32) s12)
  · exact zv_vret hX hT dX0_learnChances_13
theorem dX0_learnPairings_0 : decode cX0_learnPairings 0 = .ok (.aload_n 0, 1) := by decide +kernel
theorem dX0_learnPairings_1 : decode cX0_learnPairings 1 = .ok (.invokevirtual 57, 3) := by decide +kernel
theorem dX0_learnPairings_4 : decode cX0_learnPairings 4 = .ok (.istore_n 1, 1) := by decide +kernel
theorem dX0_learnPairings_5 : decode cX0_learnPairings 5 = .ok (.aload_n 0, 1) := by decide +kernel
theorem dX0_learnPairings_6 : decode cX0_learnPairings 6 = .ok (.getfield 92, 3) := by decide +kernel
theorem dX0_learnPairings_9 : decode cX0_learnPairings 9 = .ok (.iload_n 1, 1) := by decide +kernel
theorem dX0_learnPairings_10 : decode cX0_learnPairings 10 = .ok (.if_icmp .eq 26, 3) := by decide +kernel
theorem dX0_learnPairings_13 : decode cX0_learnPairings 13 = .ok (.aload_n 0, 1) := by decide +kernel
theorem dX0_learnPairings_14 : decode cX0_learnPairings 14 = .ok (.invokevirtual 79, 3) := by decide +kernel
theorem dX0_learnPairings_17 : decode cX0_learnPairings 17 = .ok (.aload_n 0, 1) := by decide +kernel
theorem dX0_learnPairings_18 : decode cX0_learnPairings 18 = .ok (.aload_n 0, 1) := by decide +kernel
theorem dX0_learnPairings_19 : decode cX0_learnPairings 19 = .ok (.getfield 33, 3) := by decide +kernel
theorem dX0_learnPairings_22 : decode cX0_learnPairings 22 = .ok (.invokevirtual 95, 3) := by decide +kernel
theorem dX0_learnPairings_25 : decode cX0_learnPairings 25 = .ok (.sipush 232, 3) := by decide +kernel
theorem dX0_learnPairings_28 : decode cX0_learnPairings 28 = .ok (.invokevirtual 98, 3) := by decide +kernel
theorem dX0_learnPairings_31 : decode cX0_learnPairings 31 = .ok (.aload_n 0, 1) := by decide +kernel
theorem dX0_learnPairings_32 : decode cX0_learnPairings 32 = .ok (.iload_n 1, 1) := by decide +kernel
theorem dX0_learnPairings_33 : decode cX0_learnPairings 33 = .ok (.putfield 92, 3) := by decide +kernel
theorem dX0_learnPairings_36 : decode cX0_learnPairings 36 = .ok (.return_, 1) := by decide +kernel
def f_X0_learnPairings_36  (s : zS) : Option (Unit × zS) :=
  some ((), s)
set_option maxRecDepth 20000 in
theorem b_X0_learnPairings_36 {X : zX} (hX : zx_ok X cX0_learnPairings RX0 2) (hT : zx_rt X none (zR 69 1717)) : ∀  (s : zS), zV X (zq X zrV) 2 36 [] [] s (f_X0_learnPairings_36  s) := by
  intro  s
  unfold f_X0_learnPairings_36
  exact zv_vret hX hT dX0_learnPairings_36
def f_X0_learnPairings  (s : zS) : Option (Unit × zS) :=
  zbd (f_X0_ageOfAll s) fun r1 s2 =>
  if (s2.1 60 10) = r1 then
  (f_X0_learnPairings_36 s2)
  else
  zbd (f_X0_learnMatches s2) fun _ s3 =>
  zbd (f_X5_everybody_3 s3) fun r4 s5 =>
  zbd (f_X0_findPairings r4 (nI 232) s5) fun _ s6 =>
  zb (zs_i s6 60 10 r1) fun s7 =>
  f_X0_learnPairings_36 s7
set_option maxRecDepth 20000 in
theorem c_X0_learnPairings (Y : zG)  (s : zS) : zM Y yX0_learnPairings cX0_learnPairings 2 none (zR 69 1717) [.ref (zy_a Y 60)] s zrV (f_X0_learnPairings  s) := by
  refine zm_start (by decide +kernel) (Nat.le_of_ble_eq_true rfl) ?_
  intro X hY hT hX
  subst hY
  have hX : zx_ok X cX0_learnPairings RX0 2 := hX
  show zV X (zq X zrV) 2 0 [(0, .ref (zx_ad X 60))] [] s _
  unfold f_X0_learnPairings
  refine zv_aload_n hX dX0_learnPairings_0 0 rfl ?_
  refine zv_cVI [] (rest := []) hX hT.2.2.2.2 (c_X0_ageOfAll (zx_Y X) s) wv_X0_ageOfAll c9_0 zd_60 wm_X0_57 rfl (Nat.le_of_ble_eq_true rfl) (Nat.le_of_ble_eq_true rfl) rfl (Nat.le_of_ble_eq_true rfl) dX0_learnPairings_1 (fun r1 s2 => ?_)
  refine zv_istore_n (lv' := [(1, .int r1), (0, .ref (zx_ad X 60))]) hX dX0_learnPairings_4 (by decide) rfl ?_
  refine zv_aload_n hX dX0_learnPairings_5 1 rfl ?_
  refine zv_geti hX wf_X0_92 wc_0 zd_60 zj_60_10 c9_0 zr_60_10 dX0_learnPairings_6 ?_
  refine zv_iload_n hX dX0_learnPairings_9 0 rfl ?_
  refine zv_icmp_eq (tgt := 36) hX dX0_learnPairings_10 rfl ?_ ?_
  · exact zv_sub [] rfl (b_X0_learnPairings_36 hX hT  s2)
  · refine zv_aload_n hX dX0_learnPairings_13 1 rfl ?_
    refine zv_cVV [] (rest := []) hX hT.2.2.2.2 (c_X0_learnMatches (zx_Y X) s2) wv_X0_learnMatches c9_0 zd_60 wm_X0_79 rfl (Nat.le_of_ble_eq_true rfl) (Nat.le_of_ble_eq_true rfl) rfl (Nat.le_of_ble_eq_true rfl) dX0_learnPairings_14 (fun _ s3 => ?_)
    refine zv_aload_n hX dX0_learnPairings_17 1 rfl ?_
    refine zv_aload_n hX dX0_learnPairings_18 1 rfl ?_
    refine zv_geta hX wf_X0_33 wc_0 zd_60 zj_60_0 c9_0 zr_60_0 (by decide) dX0_learnPairings_19 ?_
    refine zv_cVI [] (rest := [.ref (zx_ad X 60)]) hX hT.2.2.2.2 (c_X5_everybody_3 (zx_Y X) s3) wv_X5_everybody c9_5 zd_3 wm_X0_95 rfl (Nat.le_of_ble_eq_true rfl) (Nat.le_of_ble_eq_true rfl) rfl (Nat.le_of_ble_eq_true rfl) dX0_learnPairings_22 (fun r4 s5 => ?_)
    refine zv_sipush (v := (nI 232)) hX dX0_learnPairings_25 zi_s_232 ?_
    refine zv_cVV [.int r4, .int (nI 232)] (rest := []) hX hT.2.2.2.2 (c_X0_findPairings (zx_Y X) r4 (nI 232) s5) wv_X0_findPairings c9_0 zd_60 wm_X0_98 rfl (Nat.le_of_ble_eq_true rfl) (Nat.le_of_ble_eq_true rfl) rfl (Nat.le_of_ble_eq_true rfl) dX0_learnPairings_28 (fun _ s6 => ?_)
    refine zv_aload_n hX dX0_learnPairings_31 1 rfl ?_
    refine zv_iload_n hX dX0_learnPairings_32 0 rfl ?_
    refine zv_puti hX wf_X0_92 wc_0 wk_0_10 zd_60 zj_60_10 c9_0 zr_60_10 dX0_learnPairings_33 (fun s7 => ?_)
    exact zv_sub [] rfl (b_X0_learnPairings_36 hX hT  s7)
theorem dX0_matchesOf_0 : decode cX0_matchesOf 0 = .ok (.aload_n 0, 1) := by decide +kernel
theorem dX0_matchesOf_1 : decode cX0_matchesOf 1 = .ok (.invokevirtual 79, 3) := by decide +kernel
theorem dX0_matchesOf_4 : decode cX0_matchesOf 4 = .ok (.aload_n 0, 1) := by decide +kernel
theorem dX0_matchesOf_5 : decode cX0_matchesOf 5 = .ok (.getfield 9, 3) := by decide +kernel
theorem dX0_matchesOf_8 : decode cX0_matchesOf 8 = .ok (.iload_n 1, 1) := by decide +kernel
theorem dX0_matchesOf_9 : decode cX0_matchesOf 9 = .ok (.iaload, 1) := by decide +kernel
theorem dX0_matchesOf_10 : decode cX0_matchesOf 10 = .ok (.ireturn, 1) := by decide +kernel
def f_X0_matchesOf (v1 : Int32) (s : zS) : Option (Int32 × zS) :=
  zbd (f_X0_learnMatches s) fun _ s1 =>
  (zr_i s1 61 v1).bind fun x2 =>
  some (x2, s1)
set_option maxRecDepth 20000 in
theorem c_X0_matchesOf (Y : zG) (v1 : Int32) (s : zS) : zM Y yX0_matchesOf cX0_matchesOf 2 (some .int) (zR 6 147) [.ref (zy_a Y 60), .int v1] s zrI (f_X0_matchesOf v1 s) := by
  refine zm_start (by decide +kernel) (Nat.le_of_ble_eq_true rfl) ?_
  intro X hY hT hX
  subst hY
  have hX : zx_ok X cX0_matchesOf RX0 2 := hX
  show zV X (zq X zrI) 2 0 [(0, .ref (zx_ad X 60)), (1, .int v1)] [] s _
  unfold f_X0_matchesOf
  refine zv_aload_n hX dX0_matchesOf_0 0 rfl ?_
  refine zv_cVV [] (rest := []) hX hT.2.2.2.2 (c_X0_learnMatches (zx_Y X) s) wv_X0_learnMatches c9_0 zd_60 wm_X0_79 rfl (Nat.le_of_ble_eq_true rfl) (Nat.le_of_ble_eq_true rfl) rfl (Nat.le_of_ble_eq_true rfl) dX0_matchesOf_1 (fun _ s1 => ?_)
  refine zv_aload_n hX dX0_matchesOf_4 0 rfl ?_
  refine zv_geta hX wf_X0_9 wc_0 zd_60 zj_60_2 c9_0 zr_60_2 (by decide) dX0_matchesOf_5 ?_
  refine zv_iload_n hX dX0_matchesOf_8 1 rfl ?_
  refine zv_iald hX dX0_matchesOf_9 (fun x2 => ?_)
  exact zv_ireti hX hT dX0_matchesOf_10
