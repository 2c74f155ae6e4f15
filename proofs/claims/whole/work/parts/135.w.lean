theorem dX8_laysLikely_0 : decode cX8_laysLikely 0 = .ok (.aload_n 0, 1) := by decide +kernel
theorem dX8_laysLikely_1 : decode cX8_laysLikely 1 = .ok (.invokevirtual 284, 3) := by decide +kernel
theorem dX8_laysLikely_4 : decode cX8_laysLikely 4 = .ok (.iconst 0, 1) := by decide +kernel
theorem dX8_laysLikely_5 : decode cX8_laysLikely 5 = .ok (.istore_n 2, 1) := by decide +kernel
theorem dX8_laysLikely_6 : decode cX8_laysLikely 6 = .ok (.iload_n 2, 1) := by decide +kernel
theorem dX8_laysLikely_7 : decode cX8_laysLikely 7 = .ok (.bipush 7, 2) := by decide +kernel
theorem dX8_laysLikely_9 : decode cX8_laysLikely 9 = .ok (.if_icmp .ge 16, 3) := by decide +kernel
theorem dX8_laysLikely_12 : decode cX8_laysLikely 12 = .ok (.aload_n 0, 1) := by decide +kernel
theorem dX8_laysLikely_13 : decode cX8_laysLikely 13 = .ok (.getfield 75, 3) := by decide +kernel
theorem dX8_laysLikely_16 : decode cX8_laysLikely 16 = .ok (.iload_n 2, 1) := by decide +kernel
theorem dX8_laysLikely_17 : decode cX8_laysLikely 17 = .ok (.iconst 0, 1) := by decide +kernel
theorem dX8_laysLikely_18 : decode cX8_laysLikely 18 = .ok (.iastore, 1) := by decide +kernel
theorem dX8_laysLikely_19 : decode cX8_laysLikely 19 = .ok (.iinc 2 1, 3) := by decide +kernel
theorem dX8_laysLikely_22 : decode cX8_laysLikely 22 = .ok (.goto (-16), 3) := by decide +kernel
theorem dX8_laysLikely_25 : decode cX8_laysLikely 25 = .ok (.iconst 0, 1) := by decide +kernel
theorem dX8_laysLikely_26 : decode cX8_laysLikely 26 = .ok (.istore_n 2, 1) := by decide +kernel
theorem dX8_laysLikely_27 : decode cX8_laysLikely 27 = .ok (.iload_n 2, 1) := by decide +kernel
theorem dX8_laysLikely_28 : decode cX8_laysLikely 28 = .ok (.iconst 1, 1) := by decide +kernel
theorem dX8_laysLikely_29 : decode cX8_laysLikely 29 = .ok (.aload_n 0, 1) := by decide +kernel
theorem dX8_laysLikely_30 : decode cX8_laysLikely 30 = .ok (.getfield 13, 3) := by decide +kernel
theorem dX8_laysLikely_33 : decode cX8_laysLikely 33 = .ok (.iconst 1, 1) := by decide +kernel
theorem dX8_laysLikely_34 : decode cX8_laysLikely 34 = .ok (.iaload, 1) := by decide +kernel
theorem dX8_laysLikely_35 : decode cX8_laysLikely 35 = .ok (.ishl, 1) := by decide +kernel
theorem dX8_laysLikely_36 : decode cX8_laysLikely 36 = .ok (.if_icmp .ge 72, 3) := by decide +kernel
theorem dX8_laysLikely_39 : decode cX8_laysLikely 39 = .ok (.iload_n 2, 1) := by decide +kernel
theorem dX8_laysLikely_40 : decode cX8_laysLikely 40 = .ok (.i2l, 1) := by decide +kernel
theorem dX8_laysLikely_41 : decode cX8_laysLikely 41 = .ok (.iload_n 1, 1) := by decide +kernel
theorem dX8_laysLikely_42 : decode cX8_laysLikely 42 = .ok (.invokestatic 223, 3) := by decide +kernel
theorem dX8_laysLikely_45 : decode cX8_laysLikely 45 = .ok (.ifCond .eq 57, 3) := by decide +kernel
theorem dX8_laysLikely_48 : decode cX8_laysLikely 48 = .ok (.aload_n 0, 1) := by decide +kernel
theorem dX8_laysLikely_49 : decode cX8_laysLikely 49 = .ok (.iload_n 2, 1) := by decide +kernel
theorem dX8_laysLikely_50 : decode cX8_laysLikely 50 = .ok (.invokevirtual 458, 3) := by decide +kernel
theorem dX8_laysLikely_53 : decode cX8_laysLikely 53 = .ok (.ifCond .ne 6, 3) := by decide +kernel
theorem dX8_laysLikely_56 : decode cX8_laysLikely 56 = .ok (.goto 46, 3) := by decide +kernel
theorem dX8_laysLikely_59 : decode cX8_laysLikely 59 = .ok (.aload_n 0, 1) := by decide +kernel
theorem dX8_laysLikely_60 : decode cX8_laysLikely 60 = .ok (.iload_n 2, 1) := by decide +kernel
theorem dX8_laysLikely_61 : decode cX8_laysLikely 61 = .ok (.iconst 1, 1) := by decide +kernel
theorem dX8_laysLikely_62 : decode cX8_laysLikely 62 = .ok (.invokevirtual 400, 3) := by decide +kernel
theorem dX8_laysLikely_65 : decode cX8_laysLikely 65 = .ok (.aload_n 0, 1) := by decide +kernel
theorem dX8_laysLikely_66 : decode cX8_laysLikely 66 = .ok (.getfield 391, 3) := by decide +kernel
theorem dX8_laysLikely_69 : decode cX8_laysLikely 69 = .ok (.ifCond .ne 7, 3) := by decide +kernel
theorem dX8_laysLikely_72 : decode cX8_laysLikely 72 = .ok (.iconst (-1), 1) := by decide +kernel
theorem dX8_laysLikely_73 : decode cX8_laysLikely 73 = .ok (.goto 9, 3) := by decide +kernel
theorem dX8_laysLikely_76 : decode cX8_laysLikely 76 = .ok (.aload_n 0, 1) := by decide +kernel
theorem dX8_laysLikely_77 : decode cX8_laysLikely 77 = .ok (.getfield 63, 3) := by decide +kernel
theorem dX8_laysLikely_80 : decode cX8_laysLikely 80 = .ok (.iload_n 1, 1) := by decide +kernel
theorem dX8_laysLikely_81 : decode cX8_laysLikely 81 = .ok (.iaload, 1) := by decide +kernel
theorem dX8_laysLikely_82 : decode cX8_laysLikely 82 = .ok (.istore_n 3, 1) := by decide +kernel
theorem dX8_laysLikely_83 : decode cX8_laysLikely 83 = .ok (.iload_n 3, 1) := by decide +kernel
theorem dX8_laysLikely_84 : decode cX8_laysLikely 84 = .ok (.iconst (-1), 1) := by decide +kernel
theorem dX8_laysLikely_85 : decode cX8_laysLikely 85 = .ok (.if_icmp .eq 17, 3) := by decide +kernel
theorem dX8_laysLikely_88 : decode cX8_laysLikely 88 = .ok (.aload_n 0, 1) := by decide +kernel
theorem dX8_laysLikely_89 : decode cX8_laysLikely 89 = .ok (.getfield 75, 3) := by decide +kernel
theorem dX8_laysLikely_92 : decode cX8_laysLikely 92 = .ok (.iload_n 3, 1) := by decide +kernel
theorem dX8_laysLikely_93 : decode cX8_laysLikely 93 = .ok (.dup2, 1) := by decide +kernel
theorem dX8_laysLikely_94 : decode cX8_laysLikely 94 = .ok (.iaload, 1) := by decide +kernel
theorem dX8_laysLikely_95 : decode cX8_laysLikely 95 = .ok (.aload_n 0, 1) := by decide +kernel
theorem dX8_laysLikely_96 : decode cX8_laysLikely 96 = .ok (.iload_n 2, 1) := by decide +kernel
theorem dX8_laysLikely_97 : decode cX8_laysLikely 97 = .ok (.invokevirtual 458, 3) := by decide +kernel
theorem dX8_laysLikely_100 : decode cX8_laysLikely 100 = .ok (.iadd, 1) := by decide +kernel
theorem dX8_laysLikely_101 : decode cX8_laysLikely 101 = .ok (.iastore, 1) := by decide +kernel
theorem dX8_laysLikely_102 : decode cX8_laysLikely 102 = .ok (.iinc 2 1, 3) := by decide +kernel
theorem dX8_laysLikely_105 : decode cX8_laysLikely 105 = .ok (.goto (-78), 3) := by decide +kernel
theorem dX8_laysLikely_108 : decode cX8_laysLikely 108 = .ok (.return_, 1) := by decide +kernel
def f_X8_laysLikely_102 (kb_27 : Int32 → Int32 → zS → Option (Unit × zS)) (v1 : Int32) (v2 : Int32) (s : zS) : Option (Unit × zS) :=
  zb (v2 + (1 : Int32)) fun x1 =>
  kb_27 v1 x1 s
set_option maxRecDepth 20000 in
theorem b_X8_laysLikely_102 {X : zX} {kb_27 : Int32 → Int32 → zS → Option (Unit × zS)} (hX : zx_ok X cX8_laysLikely RX8 4) (hT : zx_rt X none (zR 71 1755)) (hk_27 : ∀ (v1 : Int32) (v2 : Int32) (s : zS), zV X (zq X zrV) 4 27 [(0, .ref (zx_ad X 76)), (1, .int v1), (2, .int v2)] [] s (kb_27 v1 v2 s)) : ∀ (v1 : Int32) (v2 : Int32) (s : zS), zV X (zq X zrV) 4 102 [(0, .ref (zx_ad X 76)), (1, .int v1), (2, .int v2)] [] s (f_X8_laysLikely_102 kb_27 v1 v2 s) := by
  intro v1 v2 s
  unfold f_X8_laysLikely_102
  refine zv_iincB (lw := fun x1 => [(2, .int x1), (0, .ref (zx_ad X 76)), (1, .int v1)]) hX dX8_laysLikely_102 2 rfl zi_i_1 (by decide) (fun _ => rfl) (fun x1 => ?_)
  refine zv_goto (tgt := 27) hX dX8_laysLikely_105 rfl ?_
  exact zv_sub [1, 2, 0] rfl (hk_27 v1 x1 s)
def f_X8_laysLikely_82 (kb_27 : Int32 → Int32 → zS → Option (Unit × zS)) (v1 : Int32) (v2 : Int32) (w0 : Int32) (s : zS) : Option (Unit × zS) :=
  if w0 = (-1 : Int32) then
  (f_X8_laysLikely_102 kb_27 v1 v2 s)
  else
  (zr_i s 96 w0).bind fun x2 =>
  zbd (f_X8_likelyOut v2 s) fun r3 s4 =>
  (zw_i s4 96 w0 (x2 + r3)).bind fun s5 =>
  f_X8_laysLikely_102 kb_27 v1 v2 s5
set_option maxRecDepth 20000 in
theorem b_X8_laysLikely_82 {X : zX} {kb_27 : Int32 → Int32 → zS → Option (Unit × zS)} (hX : zx_ok X cX8_laysLikely RX8 4) (hT : zx_rt X none (zR 71 1755)) (hk_27 : ∀ (v1 : Int32) (v2 : Int32) (s : zS), zV X (zq X zrV) 4 27 [(0, .ref (zx_ad X 76)), (1, .int v1), (2, .int v2)] [] s (kb_27 v1 v2 s)) : ∀ (v1 : Int32) (v2 : Int32) (w0 : Int32) (s : zS), zV X (zq X zrV) 4 82 [(0, .ref (zx_ad X 76)), (1, .int v1), (2, .int v2)] [.int w0] s (f_X8_laysLikely_82 kb_27 v1 v2 w0 s) := by
  intro v1 v2 w0 s
  unfold f_X8_laysLikely_82
  refine zv_istore_n (lv' := [(3, .int w0), (0, .ref (zx_ad X 76)), (1, .int v1), (2, .int v2)]) hX dX8_laysLikely_82 (by decide) rfl ?_
  refine zv_iload_n hX dX8_laysLikely_83 0 rfl ?_
  refine zv_iconst (v := (-1 : Int32)) hX dX8_laysLikely_84 zi_i_m1 ?_
  refine zv_icmp_eq (tgt := 102) hX dX8_laysLikely_85 rfl ?_ ?_
  · exact zv_sub [1, 2, 3] rfl (b_X8_laysLikely_102 hX hT hk_27 v1 v2 s)
  · refine zv_aload_n hX dX8_laysLikely_88 1 rfl ?_
    refine zv_geta hX wf_X8_75 wc_8 zd_76 zj_76_37 c9_8 zr_76_37 (by decide) dX8_laysLikely_89 ?_
    refine zv_iload_n hX dX8_laysLikely_92 0 rfl ?_
    refine zv_dup2 hX dX8_laysLikely_93 rfl rfl ?_
    refine zv_iald hX dX8_laysLikely_94 (fun x2 => ?_)
    refine zv_aload_n hX dX8_laysLikely_95 1 rfl ?_
    refine zv_iload_n hX dX8_laysLikely_96 3 rfl ?_
    refine zv_cVI [.int v2] (rest := [.int x2, .int w0, .ref (zx_ad X 96)]) hX hT.2.2.2.2 (c_X8_likelyOut (zx_Y X) v2 s) wv_X8_likelyOut c9_8 zd_76 wm_X8_458 rfl (Nat.le_of_ble_eq_true rfl) (Nat.le_of_ble_eq_true rfl) rfl (Nat.le_of_ble_eq_true rfl) dX8_laysLikely_97 (fun r3 s4 => ?_)
    refine zv_iadd hX dX8_laysLikely_100 ?_
    refine zv_iast hX dX8_laysLikely_101 (fun s5 => ?_)
    exact zv_sub [1, 2, 3] rfl (b_X8_laysLikely_102 hX hT hk_27 v1 v2 s5)
def f_X8_laysLikely_27 : Nat → Int32 → Int32 → zS → Option (Unit × zS)
  | 0, _, _, _ => none
  | n + 1, v1, v2, s =>
    (zr_i s 77 (1 : Int32)).bind fun x6 =>
    if (zo_shl (1 : Int32) x6) ≤ v2 then
    (some ((), s))
    else
    zbd (f_X8_isIn (v2.toInt64) v1 s) fun r7 s8 =>
    if r7 = 0 then
    (f_X8_laysLikely_102 (f_X8_laysLikely_27 n) v1 v2 s8)
    else
    zbd (f_X8_likelyOut v2 s8) fun r9 s10 =>
    if ¬ r9 = 0 then
    (zbd (f_X8_laysHeldOf v2 (1 : Int32) s10) fun _ s11 =>
    if ¬ (s11.1 76 32) = 0 then
    ((zr_i s11 92 v1).bind fun x12 =>
    f_X8_laysLikely_82 (f_X8_laysLikely_27 n) v1 v2 x12 s11)
    else
    f_X8_laysLikely_82 (f_X8_laysLikely_27 n) v1 v2 (-1 : Int32) s11)
    else
    f_X8_laysLikely_102 (f_X8_laysLikely_27 n) v1 v2 s10
set_option maxRecDepth 20000 in
theorem b_X8_laysLikely_27 {X : zX} (hX : zx_ok X cX8_laysLikely RX8 4) (hT : zx_rt X none (zR 71 1755)) : ∀ (n : Nat) (v1 : Int32) (v2 : Int32) (s : zS), zV X (zq X zrV) 4 27 [(0, .ref (zx_ad X 76)), (1, .int v1), (2, .int v2)] [] s (f_X8_laysLikely_27 n v1 v2 s) := by
  intro n
  induction n with
  | zero => intro v1 v2 s; exact zv_none
  | succ n ih =>
    intro v1 v2 s
    rw [f_X8_laysLikely_27]
    refine zv_iload_n hX dX8_laysLikely_27 2 rfl ?_
    refine zv_iconst (v := (1 : Int32)) hX dX8_laysLikely_28 zi_i_1 ?_
    refine zv_aload_n hX dX8_laysLikely_29 0 rfl ?_
    refine zv_geta hX wf_X8_13 wc_8 zd_76 zj_76_1 c9_8 zr_76_1 (by decide) dX8_laysLikely_30 ?_
    refine zv_iconst (v := (1 : Int32)) hX dX8_laysLikely_33 zi_i_1 ?_
    refine zv_iald hX dX8_laysLikely_34 (fun x6 => ?_)
    refine zv_ishl hX dX8_laysLikely_35 ?_
    refine zv_icmp_ge (tgt := 108) hX dX8_laysLikely_36 rfl ?_ ?_
    · exact zv_vret hX hT dX8_laysLikely_108
    · refine zv_iload_n hX dX8_laysLikely_39 2 rfl ?_
      refine zv_i2l hX dX8_laysLikely_40 ?_
      refine zv_iload_n hX dX8_laysLikely_41 1 rfl ?_
      refine zv_cSI [.long (v2.toInt64), .int v1] (rest := []) hX hT.2.2.2.2 (c_X8_isIn (zx_Y X) (v2.toInt64) v1 s) wv_X8_isIn wm_X8_223 rfl (Nat.le_of_ble_eq_true rfl) (Nat.le_of_ble_eq_true rfl) rfl (Nat.le_of_ble_eq_true rfl) dX8_laysLikely_42 (fun r7 s8 => ?_)
      refine zv_if_eq (tgt := 102) hX dX8_laysLikely_45 rfl ?_ ?_
      · exact b_X8_laysLikely_102 hX hT ih v1 v2 s8
      · refine zv_aload_n hX dX8_laysLikely_48 0 rfl ?_
        refine zv_iload_n hX dX8_laysLikely_49 2 rfl ?_
        refine zv_cVI [.int v2] (rest := []) hX hT.2.2.2.2 (c_X8_likelyOut (zx_Y X) v2 s8) wv_X8_likelyOut c9_8 zd_76 wm_X8_458 rfl (Nat.le_of_ble_eq_true rfl) (Nat.le_of_ble_eq_true rfl) rfl (Nat.le_of_ble_eq_true rfl) dX8_laysLikely_50 (fun r9 s10 => ?_)
        refine zv_if_ne (tgt := 59) hX dX8_laysLikely_53 rfl ?_ ?_
        · refine zv_aload_n hX dX8_laysLikely_59 0 rfl ?_
          refine zv_iload_n hX dX8_laysLikely_60 2 rfl ?_
          refine zv_iconst (v := (1 : Int32)) hX dX8_laysLikely_61 zi_i_1 ?_
          refine zv_cVV [.int v2, .int (1 : Int32)] (rest := []) hX hT.2.2.2.2 (c_X8_laysHeldOf (zx_Y X) v2 (1 : Int32) s10) wv_X8_laysHeldOf c9_8 zd_76 wm_X8_400 rfl (Nat.le_of_ble_eq_true rfl) (Nat.le_of_ble_eq_true rfl) rfl (Nat.le_of_ble_eq_true rfl) dX8_laysLikely_62 (fun _ s11 => ?_)
          refine zv_aload_n hX dX8_laysLikely_65 0 rfl ?_
          refine zv_geti hX wf_X8_391 wc_8 zd_76 zj_76_32 c9_8 zr_76_32 dX8_laysLikely_66 ?_
          refine zv_if_ne (tgt := 76) hX dX8_laysLikely_69 rfl ?_ ?_
          · refine zv_aload_n hX dX8_laysLikely_76 0 rfl ?_
            refine zv_geta hX wf_X8_63 wc_8 zd_76 zj_76_31 c9_8 zr_76_31 (by decide) dX8_laysLikely_77 ?_
            refine zv_iload_n hX dX8_laysLikely_80 1 rfl ?_
            refine zv_iald hX dX8_laysLikely_81 (fun x12 => ?_)
            exact b_X8_laysLikely_82 hX hT ih v1 v2 x12 s11
          · refine zv_iconst (v := (-1 : Int32)) hX dX8_laysLikely_72 zi_i_m1 ?_
            refine zv_goto (tgt := 82) hX dX8_laysLikely_73 rfl ?_
            exact b_X8_laysLikely_82 hX hT ih v1 v2 (-1 : Int32) s11
        · refine zv_goto (tgt := 102) hX dX8_laysLikely_56 rfl ?_
          exact b_X8_laysLikely_102 hX hT ih v1 v2 s10
def f_X8_laysLikely_6 : Nat → Int32 → Int32 → zS → Option (Unit × zS)
  | 0, _, _, _ => none
  | n + 1, v1, v2, s =>
    if (nI 7) ≤ v2 then
    (f_X8_laysLikely_27 zFU v1 (0 : Int32) s)
    else
    (zw_i s 96 v2 (0 : Int32)).bind fun s13 =>
    zb (v2 + (1 : Int32)) fun x14 =>
    f_X8_laysLikely_6 n v1 x14 s13
set_option maxRecDepth 20000 in
theorem b_X8_laysLikely_6 {X : zX} (hX : zx_ok X cX8_laysLikely RX8 4) (hT : zx_rt X none (zR 71 1755)) : ∀ (n : Nat) (v1 : Int32) (v2 : Int32) (s : zS), zV X (zq X zrV) 4 6 [(0, .ref (zx_ad X 76)), (1, .int v1), (2, .int v2)] [] s (f_X8_laysLikely_6 n v1 v2 s) := by
  intro n
  induction n with
  | zero => intro v1 v2 s; exact zv_none
  | succ n ih =>
    intro v1 v2 s
    rw [f_X8_laysLikely_6]
    refine zv_iload_n hX dX8_laysLikely_6 2 rfl ?_
    refine zv_bipush (v := (nI 7)) hX dX8_laysLikely_7 zi_b_7 ?_
    refine zv_icmp_ge (tgt := 25) hX dX8_laysLikely_9 rfl ?_ ?_
    · refine zv_iconst (v := (0 : Int32)) hX dX8_laysLikely_25 zi_i_0 ?_
      refine zv_istore_n (lv' := [(2, .int (0 : Int32)), (0, .ref (zx_ad X 76)), (1, .int v1)]) hX dX8_laysLikely_26 (by decide) rfl ?_
      exact zv_sub [1, 2, 0] rfl (b_X8_laysLikely_27 hX hT zFU v1 (0 : Int32) s)
    · refine zv_aload_n hX dX8_laysLikely_12 0 rfl ?_
      refine zv_geta hX wf_X8_75 wc_8 zd_76 zj_76_37 c9_8 zr_76_37 (by decide) dX8_laysLikely_13 ?_
      refine zv_iload_n hX dX8_laysLikely_16 2 rfl ?_
      refine zv_iconst (v := (0 : Int32)) hX dX8_laysLikely_17 zi_i_0 ?_
      refine zv_iast hX dX8_laysLikely_18 (fun s13 => ?_)
      refine zv_iincB (lw := fun x14 => [(2, .int x14), (0, .ref (zx_ad X 76)), (1, .int v1)]) hX dX8_laysLikely_19 2 rfl zi_i_1 (by decide) (fun _ => rfl) (fun x14 => ?_)
      refine zv_goto (tgt := 6) hX dX8_laysLikely_22 rfl ?_
      exact zv_sub [1, 2, 0] rfl (ih v1 x14 s13)
def f_X8_laysLikely (v1 : Int32) (s : zS) : Option (Unit × zS) :=
  zbd (f_X8_lays s) fun _ s15 =>
  f_X8_laysLikely_6 zFU v1 (0 : Int32) s15
set_option maxRecDepth 20000 in
theorem c_X8_laysLikely (Y : zG) (v1 : Int32) (s : zS) : zM Y yX8_laysLikely cX8_laysLikely 4 none (zR 71 1755) [.ref (zy_a Y 76), .int v1] s zrV (f_X8_laysLikely v1 s) := by
  refine zm_start (by decide +kernel) (Nat.le_of_ble_eq_true rfl) ?_
  intro X hY hT hX
  subst hY
  have hX : zx_ok X cX8_laysLikely RX8 4 := hX
  show zV X (zq X zrV) 4 0 [(0, .ref (zx_ad X 76)), (1, .int v1)] [] s _
  unfold f_X8_laysLikely
  refine zv_aload_n hX dX8_laysLikely_0 0 rfl ?_
  refine zv_cVV [] (rest := []) hX hT.2.2.2.2 (c_X8_lays (zx_Y X) s) wv_X8_lays c9_8 zd_76 wm_X8_284 rfl (Nat.le_of_ble_eq_true rfl) (Nat.le_of_ble_eq_true rfl) rfl (Nat.le_of_ble_eq_true rfl) dX8_laysLikely_1 (fun _ s15 => ?_)
  refine zv_iconst (v := (0 : Int32)) hX dX8_laysLikely_4 zi_i_0 ?_
  refine zv_istore_n (lv' := [(2, .int (0 : Int32)), (0, .ref (zx_ad X 76)), (1, .int v1)]) hX dX8_laysLikely_5 (by decide) rfl ?_
  exact zv_sub [1, 2, 0] rfl (b_X8_laysLikely_6 hX hT zFU v1 (0 : Int32) s15)
theorem dX8_common_0 : decode cX8_common 0 = .ok (.iload_n 1, 1) := by decide +kernel
theorem dX8_common_1 : decode cX8_common 1 = .ok (.ifCond .ne 7, 3) := by decide +kernel
theorem dX8_common_4 : decode cX8_common 4 = .ok (.iload_n 0, 1) := by decide +kernel
theorem dX8_common_5 : decode cX8_common 5 = .ok (.goto 10, 3) := by decide +kernel
theorem dX8_common_8 : decode cX8_common 8 = .ok (.iload_n 1, 1) := by decide +kernel
theorem dX8_common_9 : decode cX8_common 9 = .ok (.iload_n 0, 1) := by decide +kernel
theorem dX8_common_10 : decode cX8_common 10 = .ok (.iload_n 1, 1) := by decide +kernel
theorem dX8_common_11 : decode cX8_common 11 = .ok (.irem, 1) := by decide +kernel
theorem dX8_common_12 : decode cX8_common 12 = .ok (.invokestatic 435, 3) := by decide +kernel
theorem dX8_common_15 : decode cX8_common 15 = .ok (.ireturn, 1) := by decide +kernel
def f_X8_common_15 (q_X8_common : Int32 → Int32 → zS → Option (Int32 × zS)) (w0 : Int32) (s : zS) : Option (Int32 × zS) :=
  some (w0, s)
set_option maxRecDepth 20000 in
theorem b_X8_common_15 {X : zX} {dd : Nat} {q_X8_common : Int32 → Int32 → zS → Option (Int32 × zS)} (hX : zx_ok X cX8_common RX8 2) (hT : zx_rt X (some .int) (zR (0 + dd + 1) (0 + (dd + 1) * 21))) (hq_X8_common : ∀ (v0 : Int32) (v1 : Int32) (s : zS), zM (zx_Y X) yX8_common cX8_common 2 (some .int) (zR (0 + dd) (0 + dd * 21)) [.int v0, .int v1] s zrI (q_X8_common v0 v1 s)) : ∀ (w0 : Int32) (s : zS), zV X (zq X zrI) 2 15 [] [.int w0] s (f_X8_common_15 q_X8_common w0 s) := by
  have hDP : zDP = 64 := rfl
  intro w0 s
  unfold f_X8_common_15
  exact zv_ireti hX hT dX8_common_15
def g_X8_common (q_X8_common : Int32 → Int32 → zS → Option (Int32 × zS)) (v0 : Int32) (v1 : Int32) (s : zS) : Option (Int32 × zS) :=
  if ¬ v1 = 0 then
  (if v1 = 0 then none else
  zbd (q_X8_common v1 (zo_rem v0 v1) s) fun r1 s2 =>
  f_X8_common_15 q_X8_common r1 s2)
  else
  f_X8_common_15 q_X8_common v0 s
set_option maxRecDepth 20000 in
theorem e_X8_common {X : zX} {dd : Nat} {q_X8_common : Int32 → Int32 → zS → Option (Int32 × zS)} (hX : zx_ok X cX8_common RX8 2) (hT : zx_rt X (some .int) (zR (0 + dd + 1) (0 + (dd + 1) * 21))) (hq_X8_common : ∀ (v0 : Int32) (v1 : Int32) (s : zS), zM (zx_Y X) yX8_common cX8_common 2 (some .int) (zR (0 + dd) (0 + dd * 21)) [.int v0, .int v1] s zrI (q_X8_common v0 v1 s)) : ∀ (v0 : Int32) (v1 : Int32) (s : zS), zV X (zq X zrI) 2 0 [(0, .int v0), (1, .int v1)] [] s (g_X8_common q_X8_common v0 v1 s) := by
  have hDP : zDP = 64 := rfl
  intro v0 v1 s
  unfold g_X8_common
  refine zv_iload_n hX dX8_common_0 1 rfl ?_
  refine zv_if_ne (tgt := 8) hX dX8_common_1 rfl ?_ ?_
  · refine zv_iload_n hX dX8_common_8 1 rfl ?_
    refine zv_iload_n hX dX8_common_9 0 rfl ?_
    refine zv_iload_n hX dX8_common_10 1 rfl ?_
    refine zv_iremB hX dX8_common_11 ?_
    refine zv_cSI [.int v1, .int (zo_rem v0 v1)] (rest := []) hX hT.2.2.2.2 (hq_X8_common v1 (zo_rem v0 v1) s) wv_X8_common wm_X8_435 rfl (by omega) (by omega) rfl (Nat.le_of_ble_eq_true rfl) dX8_common_12 (fun r1 s2 => ?_)
    exact zv_sub [] rfl (b_X8_common_15 hX hT hq_X8_common r1 s2)
  · refine zv_iload_n hX dX8_common_4 0 rfl ?_
    refine zv_goto (tgt := 15) hX dX8_common_5 rfl ?_
    exact zv_sub [] rfl (b_X8_common_15 hX hT hq_X8_common v0 s)
def f_X8_common : Nat → Int32 → Int32 → zS → Option (Int32 × zS)
  | 0, _, _, _ => none
  | d + 1, v0, v1, s => g_X8_common (f_X8_common d) v0 v1 s
theorem c_X8_common (Y : zG) : ∀ (d : Nat) (v0 : Int32) (v1 : Int32) (s : zS), zM Y yX8_common cX8_common 2 (some .int) (zR (0 + d) (0 + d * 21)) [.int v0, .int v1] s zrI (f_X8_common d v0 v1 s) := by
  intro d
  induction d with
  | zero => intro v0 v1 s rr h; cases h
  | succ d ih =>
    intro v0 v1 s
    refine zm_start (by decide +kernel) (Nat.le_of_ble_eq_true rfl) ?_
    intro X hY hT hX
    subst hY
    have hX : zx_ok X cX8_common RX8 2 := hX
    show zV X (zq X zrI) 2 0 [(0, .int v0), (1, .int v1)] [] s (g_X8_common (f_X8_common d) v0 v1 s)
    exact e_X8_common (dd := d) hX hT ih v0 v1 s
theorem dX8_part1_0 : decode cX8_part1 0 = .ok (.iload_n 2, 1) := by decide +kernel
theorem dX8_part1_1 : decode cX8_part1 1 = .ok (.ifCond .ne 7, 3) := by decide +kernel
theorem dX8_part1_4 : decode cX8_part1 4 = .ok (.iload_n 0, 1) := by decide +kernel
theorem dX8_part1_5 : decode cX8_part1 5 = .ok (.goto 4, 3) := by decide +kernel
theorem dX8_part1_8 : decode cX8_part1 8 = .ok (.iload_n 1, 1) := by decide +kernel
theorem dX8_part1_9 : decode cX8_part1 9 = .ok (.iload_n 0, 1) := by decide +kernel
theorem dX8_part1_10 : decode cX8_part1 10 = .ok (.iload_n 1, 1) := by decide +kernel
theorem dX8_part1_11 : decode cX8_part1 11 = .ok (.invokestatic 435, 3) := by decide +kernel
theorem dX8_part1_14 : decode cX8_part1 14 = .ok (.idiv, 1) := by decide +kernel
theorem dX8_part1_15 : decode cX8_part1 15 = .ok (.ireturn, 1) := by decide +kernel
def f_X8_part1_9 (v0 : Int32) (v1 : Int32) (w0 : Int32) (s : zS) : Option (Int32 × zS) :=
  zbd (f_X8_common zDP v0 v1 s) fun r1 s2 =>
  if r1 = 0 then none else
  some (w0 / r1, s2)
set_option maxRecDepth 20000 in
theorem b_X8_part1_9 {X : zX} (hX : zx_ok X cX8_part1 RX8 3) (hT : zx_rt X (some .int) (zR 65 1365)) : ∀ (v0 : Int32) (v1 : Int32) (w0 : Int32) (s : zS), zV X (zq X zrI) 3 9 [(0, .int v0), (1, .int v1)] [.int w0] s (f_X8_part1_9 v0 v1 w0 s) := by
  intro v0 v1 w0 s
  unfold f_X8_part1_9
  refine zv_iload_n hX dX8_part1_9 0 rfl ?_
  refine zv_iload_n hX dX8_part1_10 1 rfl ?_
  refine zv_cSI [.int v0, .int v1] (rest := [.int w0]) hX hT.2.2.2.2 (c_X8_common (zx_Y X) zDP v0 v1 s) wv_X8_common wm_X8_435 rfl (Nat.le_of_ble_eq_true rfl) (Nat.le_of_ble_eq_true rfl) rfl (Nat.le_of_ble_eq_true rfl) dX8_part1_11 (fun r1 s2 => ?_)
  refine zv_idivB hX dX8_part1_14 ?_
  exact zv_ireti hX hT dX8_part1_15
def f_X8_part1 (v0 : Int32) (v1 : Int32) (v2 : Int32) (s : zS) : Option (Int32 × zS) :=
  if ¬ v2 = 0 then
  (f_X8_part1_9 v0 v1 v1 s)
  else
  f_X8_part1_9 v0 v1 v0 s
set_option maxRecDepth 20000 in
theorem c_X8_part1 (Y : zG) (v0 : Int32) (v1 : Int32) (v2 : Int32) (s : zS) : zM Y yX8_part1 cX8_part1 3 (some .int) (zR 65 1365) [.int v0, .int v1, .int v2] s zrI (f_X8_part1 v0 v1 v2 s) := by
  refine zm_start (by decide +kernel) (Nat.le_of_ble_eq_true rfl) ?_
  intro X hY hT hX
  subst hY
  have hX : zx_ok X cX8_part1 RX8 3 := hX
  show zV X (zq X zrI) 3 0 [(0, .int v0), (1, .int v1), (2, .int v2)] [] s _
  unfold f_X8_part1
  refine zv_iload_n hX dX8_part1_0 2 rfl ?_
  refine zv_if_ne (tgt := 8) hX dX8_part1_1 rfl ?_ ?_
  · refine zv_iload_n hX dX8_part1_8 1 rfl ?_
    exact zv_sub [0, 1] rfl (b_X8_part1_9 hX hT v0 v1 v1 s)
  · refine zv_iload_n hX dX8_part1_4 0 rfl ?_
    refine zv_goto (tgt := 9) hX dX8_part1_5 rfl ?_
    exact zv_sub [0, 1] rfl (b_X8_part1_9 hX hT v0 v1 v0 s)
theorem dX8_wholeOf_0 : decode cX8_wholeOf 0 = .ok (.iconst 1, 1) := by decide +kernel
theorem dX8_wholeOf_1 : decode cX8_wholeOf 1 = .ok (.istore_n 1, 1) := by decide +kernel
theorem dX8_wholeOf_2 : decode cX8_wholeOf 2 = .ok (.iconst 0, 1) := by decide +kernel
theorem dX8_wholeOf_3 : decode cX8_wholeOf 3 = .ok (.istore_n 2, 1) := by decide +kernel
theorem dX8_wholeOf_4 : decode cX8_wholeOf 4 = .ok (.iload_n 2, 1) := by decide +kernel
theorem dX8_wholeOf_5 : decode cX8_wholeOf 5 = .ok (.aload_n 0, 1) := by decide +kernel
theorem dX8_wholeOf_6 : decode cX8_wholeOf 6 = .ok (.getfield 13, 3) := by decide +kernel
theorem dX8_wholeOf_9 : decode cX8_wholeOf 9 = .ok (.iconst 1, 1) := by decide +kernel
theorem dX8_wholeOf_10 : decode cX8_wholeOf 10 = .ok (.iaload, 1) := by decide +kernel
theorem dX8_wholeOf_11 : decode cX8_wholeOf 11 = .ok (.if_icmp .ge 14, 3) := by decide +kernel
theorem dX8_wholeOf_14 : decode cX8_wholeOf 14 = .ok (.iload_n 1, 1) := by decide +kernel
theorem dX8_wholeOf_15 : decode cX8_wholeOf 15 = .ok (.bipush 10, 2) := by decide +kernel
theorem dX8_wholeOf_17 : decode cX8_wholeOf 17 = .ok (.imul, 1) := by decide +kernel
theorem dX8_wholeOf_18 : decode cX8_wholeOf 18 = .ok (.istore_n 1, 1) := by decide +kernel
theorem dX8_wholeOf_19 : decode cX8_wholeOf 19 = .ok (.iinc 2 1, 3) := by decide +kernel
theorem dX8_wholeOf_22 : decode cX8_wholeOf 22 = .ok (.goto (-18), 3) := by decide +kernel
theorem dX8_wholeOf_25 : decode cX8_wholeOf 25 = .ok (.iload_n 1, 1) := by decide +kernel
theorem dX8_wholeOf_26 : decode cX8_wholeOf 26 = .ok (.ireturn, 1) := by decide +kernel
def f_X8_wholeOf_4 : Nat → Int32 → Int32 → zS → Option (Int32 × zS)
  | 0, _, _, _ => none
  | n + 1, v1, v2, s =>
    (zr_i s 77 (1 : Int32)).bind fun x1 =>
    if x1 ≤ v2 then
    (some (v1, s))
    else
    zb (v1 * (nI 10)) fun x2 =>
    zb (v2 + (1 : Int32)) fun x3 =>
    f_X8_wholeOf_4 n x2 x3 s
set_option maxRecDepth 20000 in
theorem b_X8_wholeOf_4 {X : zX} (hX : zx_ok X cX8_wholeOf RX8 3) (hT : zx_rt X (some .int) (zR 0 0)) : ∀ (n : Nat) (v1 : Int32) (v2 : Int32) (s : zS), zV X (zq X zrI) 3 4 [(0, .ref (zx_ad X 76)), (1, .int v1), (2, .int v2)] [] s (f_X8_wholeOf_4 n v1 v2 s) := by
  intro n
  induction n with
  | zero => intro v1 v2 s; exact zv_none
  | succ n ih =>
    intro v1 v2 s
    rw [f_X8_wholeOf_4]
    refine zv_iload_n hX dX8_wholeOf_4 2 rfl ?_
    refine zv_aload_n hX dX8_wholeOf_5 0 rfl ?_
    refine zv_geta hX wf_X8_13 wc_8 zd_76 zj_76_1 c9_8 zr_76_1 (by decide) dX8_wholeOf_6 ?_
    refine zv_iconst (v := (1 : Int32)) hX dX8_wholeOf_9 zi_i_1 ?_
    refine zv_iald hX dX8_wholeOf_10 (fun x1 => ?_)
    refine zv_icmp_ge (tgt := 25) hX dX8_wholeOf_11 rfl ?_ ?_
    · refine zv_iload_n hX dX8_wholeOf_25 1 rfl ?_
      exact zv_ireti hX hT dX8_wholeOf_26
    · refine zv_iload_n hX dX8_wholeOf_14 1 rfl ?_
      refine zv_bipush (v := (nI 10)) hX dX8_wholeOf_15 zi_b_10 ?_
      refine zv_imul hX dX8_wholeOf_17 ?_
      refine zv_istB_n (lw := fun x2 => [(1, .int x2), (0, .ref (zx_ad X 76)), (2, .int v2)]) hX dX8_wholeOf_18 (by decide) (fun _ => rfl) (fun x2 => ?_)
      refine zv_iincB (lw := fun x3 => [(2, .int x3), (1, .int x2), (0, .ref (zx_ad X 76))]) hX dX8_wholeOf_19 2 rfl zi_i_1 (by decide) (fun _ => rfl) (fun x3 => ?_)
      refine zv_goto (tgt := 4) hX dX8_wholeOf_22 rfl ?_
      exact zv_sub [2, 1, 0] rfl (ih x2 x3 s)
def f_X8_wholeOf  (s : zS) : Option (Int32 × zS) :=
  f_X8_wholeOf_4 zFU (1 : Int32) (0 : Int32) s
set_option maxRecDepth 20000 in
theorem c_X8_wholeOf (Y : zG)  (s : zS) : zM Y yX8_wholeOf cX8_wholeOf 3 (some .int) (zR 0 0) [.ref (zy_a Y 76)] s zrI (f_X8_wholeOf  s) := by
  refine zm_start (by decide +kernel) (Nat.le_of_ble_eq_true rfl) ?_
  intro X hY hT hX
  subst hY
  have hX : zx_ok X cX8_wholeOf RX8 3 := hX
  show zV X (zq X zrI) 3 0 [(0, .ref (zx_ad X 76))] [] s _
  unfold f_X8_wholeOf
  refine zv_iconst (v := (1 : Int32)) hX dX8_wholeOf_0 zi_i_1 ?_
  refine zv_istore_n (lv' := [(1, .int (1 : Int32)), (0, .ref (zx_ad X 76))]) hX dX8_wholeOf_1 (by decide) rfl ?_
  refine zv_iconst (v := (0 : Int32)) hX dX8_wholeOf_2 zi_i_0 ?_
  refine zv_istore_n (lv' := [(2, .int (0 : Int32)), (1, .int (1 : Int32)), (0, .ref (zx_ad X 76))]) hX dX8_wholeOf_3 (by decide) rfl ?_
  exact zv_sub [2, 1, 0] rfl (b_X8_wholeOf_4 hX hT zFU (1 : Int32) (0 : Int32) s)
theorem dX8_chance_0 : decode cX8_chance 0 = .ok (.aload_n 0, 1) := by decide +kernel
theorem dX8_chance_1 : decode cX8_chance 1 = .ok (.iconst 0, 1) := by decide +kernel
theorem dX8_chance_2 : decode cX8_chance 2 = .ok (.putfield 1, 3) := by decide +kernel
theorem dX8_chance_5 : decode cX8_chance 5 = .ok (.aload_n 0, 1) := by decide +kernel
theorem dX8_chance_6 : decode cX8_chance 6 = .ok (.iload_n 1, 1) := by decide +kernel
theorem dX8_chance_7 : decode cX8_chance 7 = .ok (.i2l, 1) := by decide +kernel
theorem dX8_chance_8 : decode cX8_chance 8 = .ok (.invokevirtual 219, 3) := by decide +kernel
theorem dX8_chance_11 : decode cX8_chance 11 = .ok (.ifCond .eq 13, 3) := by decide +kernel
theorem dX8_chance_14 : decode cX8_chance 14 = .ok (.iload_n 2, 1) := by decide +kernel
theorem dX8_chance_15 : decode cX8_chance 15 = .ok (.i2l, 1) := by decide +kernel
theorem dX8_chance_16 : decode cX8_chance 16 = .ok (.lconst 0, 1) := by decide +kernel
theorem dX8_chance_17 : decode cX8_chance 17 = .ok (.lconst 1, 1) := by decide +kernel
theorem dX8_chance_18 : decode cX8_chance 18 = .ok (.invokestatic 154, 3) := by decide +kernel
theorem dX8_chance_21 : decode cX8_chance 21 = .ok (.ifCond .ne 6, 3) := by decide +kernel
theorem dX8_chance_24 : decode cX8_chance 24 = .ok (.bipush (-2), 2) := by decide +kernel
theorem dX8_chance_26 : decode cX8_chance 26 = .ok (.ireturn, 1) := by decide +kernel
theorem dX8_chance_27 : decode cX8_chance 27 = .ok (.aload_n 0, 1) := by decide +kernel
theorem dX8_chance_28 : decode cX8_chance 28 = .ok (.iload_n 1, 1) := by decide +kernel
theorem dX8_chance_29 : decode cX8_chance 29 = .ok (.invokevirtual 461, 3) := by decide +kernel
theorem dX8_chance_32 : decode cX8_chance 32 = .ok (.iconst 0, 1) := by decide +kernel
theorem dX8_chance_33 : decode cX8_chance 33 = .ok (.istore_n 3, 1) := by decide +kernel
theorem dX8_chance_34 : decode cX8_chance 34 = .ok (.iconst 0, 1) := by decide +kernel
theorem dX8_chance_35 : decode cX8_chance 35 = .ok (.istore 4, 2) := by decide +kernel
theorem dX8_chance_37 : decode cX8_chance 37 = .ok (.iload 4, 2) := by decide +kernel
theorem dX8_chance_39 : decode cX8_chance 39 = .ok (.bipush 7, 2) := by decide +kernel
theorem dX8_chance_41 : decode cX8_chance 41 = .ok (.if_icmp .ge 19, 3) := by decide +kernel
theorem dX8_chance_44 : decode cX8_chance 44 = .ok (.iload_n 3, 1) := by decide +kernel
theorem dX8_chance_45 : decode cX8_chance 45 = .ok (.aload_n 0, 1) := by decide +kernel
theorem dX8_chance_46 : decode cX8_chance 46 = .ok (.getfield 75, 3) := by decide +kernel
theorem dX8_chance_49 : decode cX8_chance 49 = .ok (.iload 4, 2) := by decide +kernel
theorem dX8_chance_51 : decode cX8_chance 51 = .ok (.iaload, 1) := by decide +kernel
theorem dX8_chance_52 : decode cX8_chance 52 = .ok (.iadd, 1) := by decide +kernel
theorem dX8_chance_53 : decode cX8_chance 53 = .ok (.istore_n 3, 1) := by decide +kernel
theorem dX8_chance_54 : decode cX8_chance 54 = .ok (.iinc 4 1, 3) := by decide +kernel
theorem dX8_chance_57 : decode cX8_chance 57 = .ok (.goto (-20), 3) := by decide +kernel
theorem dX8_chance_60 : decode cX8_chance 60 = .ok (.iload_n 3, 1) := by decide +kernel
theorem dX8_chance_61 : decode cX8_chance 61 = .ok (.aload_n 0, 1) := by decide +kernel
theorem dX8_chance_62 : decode cX8_chance 62 = .ok (.invokevirtual 464, 3) := by decide +kernel
theorem dX8_chance_65 : decode cX8_chance 65 = .ok (.iload_n 2, 1) := by decide +kernel
theorem dX8_chance_66 : decode cX8_chance 66 = .ok (.invokestatic 441, 3) := by decide +kernel
theorem dX8_chance_69 : decode cX8_chance 69 = .ok (.ireturn, 1) := by decide +kernel
def f_X8_chance_24  (s : zS) : Option (Int32 × zS) :=
  some ((-2 : Int32), s)
set_option maxRecDepth 20000 in
theorem b_X8_chance_24 {X : zX} (hX : zx_ok X cX8_chance RX8 5) (hT : zx_rt X (some .int) (zR 72 1778)) : ∀  (s : zS), zV X (zq X zrI) 5 24 [] [] s (f_X8_chance_24  s) := by
  intro  s
  unfold f_X8_chance_24
  refine zv_bipush (v := (-2 : Int32)) hX dX8_chance_24 zi_b_m2 ?_
  exact zv_ireti hX hT dX8_chance_26
def f_X8_chance_37 : Nat → Int32 → Int32 → Int32 → zS → Option (Int32 × zS)
  | 0, _, _, _, _ => none
  | n + 1, v2, v3, v4, s =>
    if (nI 7) ≤ v4 then
    (zbd (f_X8_wholeOf s) fun r1 s2 =>
    zbd (f_X8_part1 v3 r1 v2 s2) fun r3 s4 =>
    some (r3, s4))
    else
    (zr_i s 96 v4).bind fun x5 =>
    zb (v3 + x5) fun x6 =>
    zb (v4 + (1 : Int32)) fun x7 =>
    f_X8_chance_37 n v2 x6 x7 s
set_option maxRecDepth 20000 in
theorem b_X8_chance_37 {X : zX} (hX : zx_ok X cX8_chance RX8 5) (hT : zx_rt X (some .int) (zR 72 1778)) : ∀ (n : Nat) (v2 : Int32) (v3 : Int32) (v4 : Int32) (s : zS), zV X (zq X zrI) 5 37 [(0, .ref (zx_ad X 76)), (2, .int v2), (3, .int v3), (4, .int v4)] [] s (f_X8_chance_37 n v2 v3 v4 s) := by
  intro n
  induction n with
  | zero => intro v2 v3 v4 s; exact zv_none
  | succ n ih =>
    intro v2 v3 v4 s
    rw [f_X8_chance_37]
    refine zv_iload hX dX8_chance_37 3 rfl ?_
    refine zv_bipush (v := (nI 7)) hX dX8_chance_39 zi_b_7 ?_
    refine zv_icmp_ge (tgt := 60) hX dX8_chance_41 rfl ?_ ?_
    · refine zv_iload_n hX dX8_chance_60 2 rfl ?_
      refine zv_aload_n hX dX8_chance_61 0 rfl ?_
      refine zv_cVI [] (rest := [.int v3]) hX hT.2.2.2.2 (c_X8_wholeOf (zx_Y X) s) wv_X8_wholeOf c9_8 zd_76 wm_X8_464 rfl (Nat.le_of_ble_eq_true rfl) (Nat.le_of_ble_eq_true rfl) rfl (Nat.le_of_ble_eq_true rfl) dX8_chance_62 (fun r1 s2 => ?_)
      refine zv_iload_n hX dX8_chance_65 1 rfl ?_
      refine zv_cSI [.int v3, .int r1, .int v2] (rest := []) hX hT.2.2.2.2 (c_X8_part1 (zx_Y X) v3 r1 v2 s2) wv_X8_part1 wm_X8_441 rfl (Nat.le_of_ble_eq_true rfl) (Nat.le_of_ble_eq_true rfl) rfl (Nat.le_of_ble_eq_true rfl) dX8_chance_66 (fun r3 s4 => ?_)
      exact zv_ireti hX hT dX8_chance_69
    · refine zv_iload_n hX dX8_chance_44 2 rfl ?_
      refine zv_aload_n hX dX8_chance_45 0 rfl ?_
      refine zv_geta hX wf_X8_75 wc_8 zd_76 zj_76_37 c9_8 zr_76_37 (by decide) dX8_chance_46 ?_
      refine zv_iload hX dX8_chance_49 3 rfl ?_
      refine zv_iald hX dX8_chance_51 (fun x5 => ?_)
      refine zv_iadd hX dX8_chance_52 ?_
      refine zv_istB_n (lw := fun x6 => [(3, .int x6), (0, .ref (zx_ad X 76)), (2, .int v2), (4, .int v4)]) hX dX8_chance_53 (by decide) (fun _ => rfl) (fun x6 => ?_)
      refine zv_iincB (lw := fun x7 => [(4, .int x7), (3, .int x6), (0, .ref (zx_ad X 76)), (2, .int v2)]) hX dX8_chance_54 3 rfl zi_i_1 (by decide) (fun _ => rfl) (fun x7 => ?_)
      refine zv_goto (tgt := 37) hX dX8_chance_57 rfl ?_
      exact zv_sub [2, 3, 1, 0] rfl (ih v2 x6 x7 s)
def f_X8_chance (v1 : Int32) (v2 : Int32) (s : zS) : Option (Int32 × zS) :=
  zb (zs_i s 76 0 (0 : Int32)) fun s8 =>
  zbd (f_X8_isPerson (v1.toInt64) s8) fun r9 s10 =>
  if r9 = 0 then
  (f_X8_chance_24 s10)
  else
  zbd (f_X8_within (v2.toInt64) (0 : Int64) (1 : Int64) s10) fun r11 s12 =>
  if ¬ r11 = 0 then
  (zbd (f_X8_laysLikely v1 s12) fun _ s13 =>
  f_X8_chance_37 zFU v2 (0 : Int32) (0 : Int32) s13)
  else
  f_X8_chance_24 s12
set_option maxRecDepth 20000 in
theorem c_X8_chance (Y : zG) (v1 : Int32) (v2 : Int32) (s : zS) : zM Y yX8_chance cX8_chance 5 (some .int) (zR 72 1778) [.ref (zy_a Y 76), .int v1, .int v2] s zrI (f_X8_chance v1 v2 s) := by
  refine zm_start (by decide +kernel) (Nat.le_of_ble_eq_true rfl) ?_
  intro X hY hT hX
  subst hY
  have hX : zx_ok X cX8_chance RX8 5 := hX
  show zV X (zq X zrI) 5 0 [(0, .ref (zx_ad X 76)), (1, .int v1), (2, .int v2)] [] s _
  unfold f_X8_chance
  refine zv_aload_n hX dX8_chance_0 0 rfl ?_
  refine zv_iconst (v := (0 : Int32)) hX dX8_chance_1 zi_i_0 ?_
  refine zv_puti hX wf_X8_1 wc_8 wk_8_0 zd_76 zj_76_0 c9_8 zr_76_0 dX8_chance_2 (fun s8 => ?_)
  refine zv_aload_n hX dX8_chance_5 0 rfl ?_
  refine zv_iload_n hX dX8_chance_6 1 rfl ?_
  refine zv_i2l hX dX8_chance_7 ?_
  refine zv_cVI [.long (v1.toInt64)] (rest := []) hX hT.2.2.2.2 (c_X8_isPerson (zx_Y X) (v1.toInt64) s8) wv_X8_isPerson c9_8 zd_76 wm_X8_219 rfl (Nat.le_of_ble_eq_true rfl) (Nat.le_of_ble_eq_true rfl) rfl (Nat.le_of_ble_eq_true rfl) dX8_chance_8 (fun r9 s10 => ?_)
  refine zv_if_eq (tgt := 24) hX dX8_chance_11 rfl ?_ ?_
  · exact zv_sub [] rfl (b_X8_chance_24 hX hT  s10)
  · refine zv_iload_n hX dX8_chance_14 2 rfl ?_
    refine zv_i2l hX dX8_chance_15 ?_
    refine zv_lconst (v := (0 : Int64)) hX dX8_chance_16 zi_l_0 ?_
    refine zv_lconst (v := (1 : Int64)) hX dX8_chance_17 zi_l_1 ?_
    refine zv_cSI [.long (v2.toInt64), .long (0 : Int64), .long (1 : Int64)] (rest := []) hX hT.2.2.2.2 (c_X8_within (zx_Y X) (v2.toInt64) (0 : Int64) (1 : Int64) s10) wv_X8_within wm_X8_154 rfl (Nat.le_of_ble_eq_true rfl) (Nat.le_of_ble_eq_true rfl) rfl (Nat.le_of_ble_eq_true rfl) dX8_chance_18 (fun r11 s12 => ?_)
    refine zv_if_ne (tgt := 27) hX dX8_chance_21 rfl ?_ ?_
    · refine zv_aload_n hX dX8_chance_27 0 rfl ?_
      refine zv_iload_n hX dX8_chance_28 1 rfl ?_
      refine zv_cVV [.int v1] (rest := []) hX hT.2.2.2.2 (c_X8_laysLikely (zx_Y X) v1 s12) wv_X8_laysLikely c9_8 zd_76 wm_X8_461 rfl (Nat.le_of_ble_eq_true rfl) (Nat.le_of_ble_eq_true rfl) rfl (Nat.le_of_ble_eq_true rfl) dX8_chance_29 (fun _ s13 => ?_)
      refine zv_iconst (v := (0 : Int32)) hX dX8_chance_32 zi_i_0 ?_
      refine zv_istore_n (lv' := [(3, .int (0 : Int32)), (0, .ref (zx_ad X 76)), (1, .int v1), (2, .int v2)]) hX dX8_chance_33 (by decide) rfl ?_
      refine zv_iconst (v := (0 : Int32)) hX dX8_chance_34 zi_i_0 ?_
      refine zv_istore (lv' := [(4, .int (0 : Int32)), (3, .int (0 : Int32)), (0, .ref (zx_ad X 76)), (1, .int v1), (2, .int v2)]) hX dX8_chance_35 (by decide) rfl ?_
      exact zv_sub [2, 4, 1, 0] rfl (b_X8_chance_37 hX hT zFU v2 (0 : Int32) (0 : Int32) s13)
    · exact zv_sub [] rfl (b_X8_chance_24 hX hT  s12)
theorem dX8_change_0 : decode cX8_change 0 = .ok (.aload_n 0, 1) := by decide +kernel
theorem dX8_change_1 : decode cX8_change 1 = .ok (.iconst 0, 1) := by decide +kernel
theorem dX8_change_2 : decode cX8_change 2 = .ok (.putfield 1, 3) := by decide +kernel
theorem dX8_change_5 : decode cX8_change 5 = .ok (.aload_n 0, 1) := by decide +kernel
theorem dX8_change_6 : decode cX8_change 6 = .ok (.iload_n 1, 1) := by decide +kernel
theorem dX8_change_7 : decode cX8_change 7 = .ok (.i2l, 1) := by decide +kernel
theorem dX8_change_8 : decode cX8_change 8 = .ok (.iload_n 2, 1) := by decide +kernel
theorem dX8_change_9 : decode cX8_change 9 = .ok (.i2l, 1) := by decide +kernel
theorem dX8_change_10 : decode cX8_change 10 = .ok (.invokevirtual 290, 3) := by decide +kernel
theorem dX8_change_13 : decode cX8_change 13 = .ok (.ifCond .eq 13, 3) := by decide +kernel
theorem dX8_change_16 : decode cX8_change 16 = .ok (.iload_n 3, 1) := by decide +kernel
theorem dX8_change_17 : decode cX8_change 17 = .ok (.i2l, 1) := by decide +kernel
theorem dX8_change_18 : decode cX8_change 18 = .ok (.lconst 0, 1) := by decide +kernel
theorem dX8_change_19 : decode cX8_change 19 = .ok (.lconst 1, 1) := by decide +kernel
theorem dX8_change_20 : decode cX8_change 20 = .ok (.invokestatic 154, 3) := by decide +kernel
theorem dX8_change_23 : decode cX8_change 23 = .ok (.ifCond .ne 6, 3) := by decide +kernel
theorem dX8_change_26 : decode cX8_change 26 = .ok (.bipush (-2), 2) := by decide +kernel
theorem dX8_change_28 : decode cX8_change 28 = .ok (.ireturn, 1) := by decide +kernel
theorem dX8_change_29 : decode cX8_change 29 = .ok (.aload_n 0, 1) := by decide +kernel
theorem dX8_change_30 : decode cX8_change 30 = .ok (.getfield 13, 3) := by decide +kernel
theorem dX8_change_33 : decode cX8_change 33 = .ok (.bipush 29, 2) := by decide +kernel
theorem dX8_change_35 : decode cX8_change 35 = .ok (.iload_n 1, 1) := by decide +kernel
theorem dX8_change_36 : decode cX8_change 36 = .ok (.iadd, 1) := by decide +kernel
theorem dX8_change_37 : decode cX8_change 37 = .ok (.iaload, 1) := by decide +kernel
theorem dX8_change_38 : decode cX8_change 38 = .ok (.istore 4, 2) := by decide +kernel
theorem dX8_change_40 : decode cX8_change 40 = .ok (.iconst (-1), 1) := by decide +kernel
theorem dX8_change_41 : decode cX8_change 41 = .ok (.istore 5, 2) := by decide +kernel
theorem dX8_change_43 : decode cX8_change 43 = .ok (.iconst 0, 1) := by decide +kernel
theorem dX8_change_44 : decode cX8_change 44 = .ok (.istore 6, 2) := by decide +kernel
theorem dX8_change_46 : decode cX8_change 46 = .ok (.iload 6, 2) := by decide +kernel
theorem dX8_change_48 : decode cX8_change 48 = .ok (.sipush 512, 3) := by decide +kernel
theorem dX8_change_51 : decode cX8_change 51 = .ok (.if_icmp .ge 66, 3) := by decide +kernel
theorem dX8_change_54 : decode cX8_change 54 = .ok (.iload 5, 2) := by decide +kernel
theorem dX8_change_56 : decode cX8_change 56 = .ok (.iconst (-1), 1) := by decide +kernel
theorem dX8_change_57 : decode cX8_change 57 = .ok (.if_icmp .eq 25, 3) := by decide +kernel
theorem dX8_change_60 : decode cX8_change 60 = .ok (.iload 6, 2) := by decide +kernel
theorem dX8_change_62 : decode cX8_change 62 = .ok (.iload 4, 2) := by decide +kernel
theorem dX8_change_64 : decode cX8_change 64 = .ok (.ixor, 1) := by decide +kernel
theorem dX8_change_65 : decode cX8_change 65 = .ok (.invokestatic 233, 3) := by decide +kernel
theorem dX8_change_68 : decode cX8_change 68 = .ok (.iload 5, 2) := by decide +kernel
theorem dX8_change_70 : decode cX8_change 70 = .ok (.iload 4, 2) := by decide +kernel
theorem dX8_change_72 : decode cX8_change 72 = .ok (.ixor, 1) := by decide +kernel
theorem dX8_change_73 : decode cX8_change 73 = .ok (.invokestatic 233, 3) := by decide +kernel
theorem dX8_change_76 : decode cX8_change 76 = .ok (.if_icmp .lt 6, 3) := by decide +kernel
theorem dX8_change_79 : decode cX8_change 79 = .ok (.goto 32, 3) := by decide +kernel
theorem dX8_change_82 : decode cX8_change 82 = .ok (.aload_n 0, 1) := by decide +kernel
theorem dX8_change_83 : decode cX8_change 83 = .ok (.getfield 13, 3) := by decide +kernel
theorem dX8_change_86 : decode cX8_change 86 = .ok (.bipush 29, 2) := by decide +kernel
theorem dX8_change_88 : decode cX8_change 88 = .ok (.iload_n 1, 1) := by decide +kernel
theorem dX8_change_89 : decode cX8_change 89 = .ok (.iadd, 1) := by decide +kernel
theorem dX8_change_90 : decode cX8_change 90 = .ok (.iload 6, 2) := by decide +kernel
theorem dX8_change_92 : decode cX8_change 92 = .ok (.iastore, 1) := by decide +kernel
theorem dX8_change_93 : decode cX8_change 93 = .ok (.aload_n 0, 1) := by decide +kernel
theorem dX8_change_94 : decode cX8_change 94 = .ok (.iconst 1, 1) := by decide +kernel
theorem dX8_change_95 : decode cX8_change 95 = .ok (.iload_n 1, 1) := by decide +kernel
theorem dX8_change_96 : decode cX8_change 96 = .ok (.ishl, 1) := by decide +kernel
theorem dX8_change_97 : decode cX8_change 97 = .ok (.iconst 1, 1) := by decide +kernel
theorem dX8_change_98 : decode cX8_change 98 = .ok (.iload_n 2, 1) := by decide +kernel
theorem dX8_change_99 : decode cX8_change 99 = .ok (.ishl, 1) := by decide +kernel
theorem dX8_change_100 : decode cX8_change 100 = .ok (.ior, 1) := by decide +kernel
theorem dX8_change_101 : decode cX8_change 101 = .ok (.invokevirtual 414, 3) := by decide +kernel
theorem dX8_change_104 : decode cX8_change 104 = .ok (.ifCond .eq 7, 3) := by decide +kernel
theorem dX8_change_107 : decode cX8_change 107 = .ok (.iload 6, 2) := by decide +kernel
theorem dX8_change_109 : decode cX8_change 109 = .ok (.istore 5, 2) := by decide +kernel
theorem dX8_change_111 : decode cX8_change 111 = .ok (.iinc 6 1, 3) := by decide +kernel
theorem dX8_change_114 : decode cX8_change 114 = .ok (.goto (-68), 3) := by decide +kernel
theorem dX8_change_117 : decode cX8_change 117 = .ok (.aload_n 0, 1) := by decide +kernel
theorem dX8_change_118 : decode cX8_change 118 = .ok (.getfield 13, 3) := by decide +kernel
theorem dX8_change_121 : decode cX8_change 121 = .ok (.bipush 29, 2) := by decide +kernel
theorem dX8_change_123 : decode cX8_change 123 = .ok (.iload_n 1, 1) := by decide +kernel
theorem dX8_change_124 : decode cX8_change 124 = .ok (.iadd, 1) := by decide +kernel
theorem dX8_change_125 : decode cX8_change 125 = .ok (.iload 4, 2) := by decide +kernel
theorem dX8_change_127 : decode cX8_change 127 = .ok (.iastore, 1) := by decide +kernel
theorem dX8_change_128 : decode cX8_change 128 = .ok (.iload 5, 2) := by decide +kernel
theorem dX8_change_130 : decode cX8_change 130 = .ok (.iconst (-1), 1) := by decide +kernel
theorem dX8_change_131 : decode cX8_change 131 = .ok (.if_icmp .eq 8, 3) := by decide +kernel
theorem dX8_change_134 : decode cX8_change 134 = .ok (.iload_n 3, 1) := by decide +kernel
theorem dX8_change_135 : decode cX8_change 135 = .ok (.iconst 1, 1) := by decide +kernel
theorem dX8_change_136 : decode cX8_change 136 = .ok (.if_icmp .ne 8, 3) := by decide +kernel
theorem dX8_change_139 : decode cX8_change 139 = .ok (.iload 5, 2) := by decide +kernel
theorem dX8_change_141 : decode cX8_change 141 = .ok (.goto 11, 3) := by decide +kernel
theorem dX8_change_144 : decode cX8_change 144 = .ok (.iload 5, 2) := by decide +kernel
theorem dX8_change_146 : decode cX8_change 146 = .ok (.iload 4, 2) := by decide +kernel
theorem dX8_change_148 : decode cX8_change 148 = .ok (.ixor, 1) := by decide +kernel
theorem dX8_change_149 : decode cX8_change 149 = .ok (.invokestatic 233, 3) := by decide +kernel
theorem dX8_change_152 : decode cX8_change 152 = .ok (.ireturn, 1) := by decide +kernel
def f_X8_change_26  (s : zS) : Option (Int32 × zS) :=
  some ((-2 : Int32), s)
set_option maxRecDepth 20000 in
theorem b_X8_change_26 {X : zX} (hX : zx_ok X cX8_change RX8 7) (hT : zx_rt X (some .int) (zR 69 1713)) : ∀  (s : zS), zV X (zq X zrI) 7 26 [] [] s (f_X8_change_26  s) := by
  intro  s
  unfold f_X8_change_26
  refine zv_bipush (v := (-2 : Int32)) hX dX8_change_26 zi_b_m2 ?_
  exact zv_ireti hX hT dX8_change_28
def f_X8_change_152 (w0 : Int32) (s : zS) : Option (Int32 × zS) :=
  some (w0, s)
set_option maxRecDepth 20000 in
theorem b_X8_change_152 {X : zX} (hX : zx_ok X cX8_change RX8 7) (hT : zx_rt X (some .int) (zR 69 1713)) : ∀ (w0 : Int32) (s : zS), zV X (zq X zrI) 7 152 [] [.int w0] s (f_X8_change_152 w0 s) := by
  intro w0 s
  unfold f_X8_change_152
  exact zv_ireti hX hT dX8_change_152
def f_X8_change_139 (v5 : Int32) (s : zS) : Option (Int32 × zS) :=
  f_X8_change_152 v5 s
set_option maxRecDepth 20000 in
theorem b_X8_change_139 {X : zX} (hX : zx_ok X cX8_change RX8 7) (hT : zx_rt X (some .int) (zR 69 1713)) : ∀ (v5 : Int32) (s : zS), zV X (zq X zrI) 7 139 [(5, .int v5)] [] s (f_X8_change_139 v5 s) := by
  intro v5 s
  unfold f_X8_change_139
  refine zv_iload hX dX8_change_139 0 rfl ?_
  refine zv_goto (tgt := 152) hX dX8_change_141 rfl ?_
  exact zv_sub [] rfl (b_X8_change_152 hX hT v5 s)
def f_X8_change_111 (kb_46 : Int32 → Int32 → Int32 → Int32 → Int32 → Int32 → zS → Option (Int32 × zS)) (v1 : Int32) (v2 : Int32) (v3 : Int32) (v4 : Int32) (v5 : Int32) (v6 : Int32) (s : zS) : Option (Int32 × zS) :=
  zb (v6 + (1 : Int32)) fun x1 =>
  kb_46 v1 v2 v3 v4 v5 x1 s
set_option maxRecDepth 20000 in
theorem b_X8_change_111 {X : zX} {kb_46 : Int32 → Int32 → Int32 → Int32 → Int32 → Int32 → zS → Option (Int32 × zS)} (hX : zx_ok X cX8_change RX8 7) (hT : zx_rt X (some .int) (zR 69 1713)) (hk_46 : ∀ (v1 : Int32) (v2 : Int32) (v3 : Int32) (v4 : Int32) (v5 : Int32) (v6 : Int32) (s : zS), zV X (zq X zrI) 7 46 [(0, .ref (zx_ad X 76)), (1, .int v1), (2, .int v2), (3, .int v3), (4, .int v4), (5, .int v5), (6, .int v6)] [] s (kb_46 v1 v2 v3 v4 v5 v6 s)) : ∀ (v1 : Int32) (v2 : Int32) (v3 : Int32) (v4 : Int32) (v5 : Int32) (v6 : Int32) (s : zS), zV X (zq X zrI) 7 111 [(0, .ref (zx_ad X 76)), (1, .int v1), (2, .int v2), (3, .int v3), (4, .int v4), (5, .int v5), (6, .int v6)] [] s (f_X8_change_111 kb_46 v1 v2 v3 v4 v5 v6 s) := by
  intro v1 v2 v3 v4 v5 v6 s
  unfold f_X8_change_111
  refine zv_iincB (lw := fun x1 => [(6, .int x1), (0, .ref (zx_ad X 76)), (1, .int v1), (2, .int v2), (3, .int v3), (4, .int v4), (5, .int v5)]) hX dX8_change_111 6 rfl zi_i_1 (by decide) (fun _ => rfl) (fun x1 => ?_)
  refine zv_goto (tgt := 46) hX dX8_change_114 rfl ?_
  exact zv_sub [1, 2, 3, 4, 5, 6, 0] rfl (hk_46 v1 v2 v3 v4 v5 x1 s)
def f_X8_change_82 (kb_46 : Int32 → Int32 → Int32 → Int32 → Int32 → Int32 → zS → Option (Int32 × zS)) (v1 : Int32) (v2 : Int32) (v3 : Int32) (v4 : Int32) (v5 : Int32) (v6 : Int32) (s : zS) : Option (Int32 × zS) :=
  (zw_i s 77 ((nI 29) + v1) v6).bind fun s2 =>
  zbd (f_X8_fitsSet ((zo_shl (1 : Int32) v1) ||| (zo_shl (1 : Int32) v2)) s2) fun r3 s4 =>
  if r3 = 0 then
  (f_X8_change_111 kb_46 v1 v2 v3 v4 v5 v6 s4)
  else
  f_X8_change_111 kb_46 v1 v2 v3 v4 v6 v6 s4
set_option maxRecDepth 20000 in
theorem b_X8_change_82 {X : zX} {kb_46 : Int32 → Int32 → Int32 → Int32 → Int32 → Int32 → zS → Option (Int32 × zS)} (hX : zx_ok X cX8_change RX8 7) (hT : zx_rt X (some .int) (zR 69 1713)) (hk_46 : ∀ (v1 : Int32) (v2 : Int32) (v3 : Int32) (v4 : Int32) (v5 : Int32) (v6 : Int32) (s : zS), zV X (zq X zrI) 7 46 [(0, .ref (zx_ad X 76)), (1, .int v1), (2, .int v2), (3, .int v3), (4, .int v4), (5, .int v5), (6, .int v6)] [] s (kb_46 v1 v2 v3 v4 v5 v6 s)) : ∀ (v1 : Int32) (v2 : Int32) (v3 : Int32) (v4 : Int32) (v5 : Int32) (v6 : Int32) (s : zS), zV X (zq X zrI) 7 82 [(0, .ref (zx_ad X 76)), (1, .int v1), (2, .int v2), (3, .int v3), (4, .int v4), (5, .int v5), (6, .int v6)] [] s (f_X8_change_82 kb_46 v1 v2 v3 v4 v5 v6 s) := by
  intro v1 v2 v3 v4 v5 v6 s
  unfold f_X8_change_82
  refine zv_aload_n hX dX8_change_82 0 rfl ?_
  refine zv_geta hX wf_X8_13 wc_8 zd_76 zj_76_1 c9_8 zr_76_1 (by decide) dX8_change_83 ?_
  refine zv_bipush (v := (nI 29)) hX dX8_change_86 zi_b_29 ?_
  refine zv_iload_n hX dX8_change_88 1 rfl ?_
  refine zv_iadd hX dX8_change_89 ?_
  refine zv_iload hX dX8_change_90 6 rfl ?_
  refine zv_iast hX dX8_change_92 (fun s2 => ?_)
  refine zv_aload_n hX dX8_change_93 0 rfl ?_
  refine zv_iconst (v := (1 : Int32)) hX dX8_change_94 zi_i_1 ?_
  refine zv_iload_n hX dX8_change_95 1 rfl ?_
  refine zv_ishl hX dX8_change_96 ?_
  refine zv_iconst (v := (1 : Int32)) hX dX8_change_97 zi_i_1 ?_
  refine zv_iload_n hX dX8_change_98 2 rfl ?_
  refine zv_ishl hX dX8_change_99 ?_
  refine zv_ior hX dX8_change_100 ?_
  refine zv_cVI [.int ((zo_shl (1 : Int32) v1) ||| (zo_shl (1 : Int32) v2))] (rest := []) hX hT.2.2.2.2 (c_X8_fitsSet (zx_Y X) ((zo_shl (1 : Int32) v1) ||| (zo_shl (1 : Int32) v2)) s2) wv_X8_fitsSet c9_8 zd_76 wm_X8_414 rfl (Nat.le_of_ble_eq_true rfl) (Nat.le_of_ble_eq_true rfl) rfl (Nat.le_of_ble_eq_true rfl) dX8_change_101 (fun r3 s4 => ?_)
  refine zv_if_eq (tgt := 111) hX dX8_change_104 rfl ?_ ?_
  · exact b_X8_change_111 hX hT hk_46 v1 v2 v3 v4 v5 v6 s4
  · refine zv_iload hX dX8_change_107 6 rfl ?_
    refine zv_istore (lv' := [(5, .int v6), (0, .ref (zx_ad X 76)), (1, .int v1), (2, .int v2), (3, .int v3), (4, .int v4), (6, .int v6)]) hX dX8_change_109 (by decide) rfl ?_
    exact zv_sub [1, 2, 3, 4, 5, 0, 6] rfl (b_X8_change_111 hX hT hk_46 v1 v2 v3 v4 v6 v6 s4)
def f_X8_change_46 : Nat → Int32 → Int32 → Int32 → Int32 → Int32 → Int32 → zS → Option (Int32 × zS)
  | 0, _, _, _, _, _, _, _ => none
  | n + 1, v1, v2, v3, v4, v5, v6, s =>
    if (nI 512) ≤ v6 then
    ((zw_i s 77 ((nI 29) + v1) v4).bind fun s5 =>
    if v5 = (-1 : Int32) then
    (f_X8_change_139 v5 s5)
    else
    if ¬ v3 = (1 : Int32) then
    (zbd (f_X8_bitsOf (v5 ^^^ v4) s5) fun r6 s7 =>
    f_X8_change_152 r6 s7)
    else
    f_X8_change_139 v5 s5)
    else
    if v5 = (-1 : Int32) then
    (f_X8_change_82 (f_X8_change_46 n) v1 v2 v3 v4 v5 v6 s)
    else
    zbd (f_X8_bitsOf (v6 ^^^ v4) s) fun r8 s9 =>
    zbd (f_X8_bitsOf (v5 ^^^ v4) s9) fun r10 s11 =>
    if r8 < r10 then
    (f_X8_change_82 (f_X8_change_46 n) v1 v2 v3 v4 v5 v6 s11)
    else
    f_X8_change_111 (f_X8_change_46 n) v1 v2 v3 v4 v5 v6 s11
set_option maxRecDepth 20000 in
theorem b_X8_change_46 {X : zX} (hX : zx_ok X cX8_change RX8 7) (hT : zx_rt X (some .int) (zR 69 1713)) : ∀ (n : Nat) (v1 : Int32) (v2 : Int32) (v3 : Int32) (v4 : Int32) (v5 : Int32) (v6 : Int32) (s : zS), zV X (zq X zrI) 7 46 [(0, .ref (zx_ad X 76)), (1, .int v1), (2, .int v2), (3, .int v3), (4, .int v4), (5, .int v5), (6, .int v6)] [] s (f_X8_change_46 n v1 v2 v3 v4 v5 v6 s) := by
  intro n
  induction n with
  | zero => intro v1 v2 v3 v4 v5 v6 s; exact zv_none
  | succ n ih =>
    intro v1 v2 v3 v4 v5 v6 s
    rw [f_X8_change_46]
    refine zv_iload hX dX8_change_46 6 rfl ?_
    refine zv_sipush (v := (nI 512)) hX dX8_change_48 zi_s_512 ?_
    refine zv_icmp_ge (tgt := 117) hX dX8_change_51 rfl ?_ ?_
    · refine zv_aload_n hX dX8_change_117 0 rfl ?_
      refine zv_geta hX wf_X8_13 wc_8 zd_76 zj_76_1 c9_8 zr_76_1 (by decide) dX8_change_118 ?_
      refine zv_bipush (v := (nI 29)) hX dX8_change_121 zi_b_29 ?_
      refine zv_iload_n hX dX8_change_123 1 rfl ?_
      refine zv_iadd hX dX8_change_124 ?_
      refine zv_iload hX dX8_change_125 4 rfl ?_
      refine zv_iast hX dX8_change_127 (fun s5 => ?_)
      refine zv_iload hX dX8_change_128 5 rfl ?_
      refine zv_iconst (v := (-1 : Int32)) hX dX8_change_130 zi_i_m1 ?_
      refine zv_icmp_eq (tgt := 139) hX dX8_change_131 rfl ?_ ?_
      · exact zv_sub [5] rfl (b_X8_change_139 hX hT v5 s5)
      · refine zv_iload_n hX dX8_change_134 3 rfl ?_
        refine zv_iconst (v := (1 : Int32)) hX dX8_change_135 zi_i_1 ?_
        refine zv_icmp_ne (tgt := 144) hX dX8_change_136 rfl ?_ ?_
        · refine zv_iload hX dX8_change_144 5 rfl ?_
          refine zv_iload hX dX8_change_146 4 rfl ?_
          refine zv_ixor hX dX8_change_148 ?_
          refine zv_cSI [.int (v5 ^^^ v4)] (rest := []) hX hT.2.2.2.2 (c_X8_bitsOf (zx_Y X) (v5 ^^^ v4) s5) wv_X8_bitsOf wm_X8_233 rfl (Nat.le_of_ble_eq_true rfl) (Nat.le_of_ble_eq_true rfl) rfl (Nat.le_of_ble_eq_true rfl) dX8_change_149 (fun r6 s7 => ?_)
          exact zv_sub [] rfl (b_X8_change_152 hX hT r6 s7)
        · exact zv_sub [5] rfl (b_X8_change_139 hX hT v5 s5)
    · refine zv_iload hX dX8_change_54 5 rfl ?_
      refine zv_iconst (v := (-1 : Int32)) hX dX8_change_56 zi_i_m1 ?_
      refine zv_icmp_eq (tgt := 82) hX dX8_change_57 rfl ?_ ?_
      · exact b_X8_change_82 hX hT ih v1 v2 v3 v4 v5 v6 s
      · refine zv_iload hX dX8_change_60 6 rfl ?_
        refine zv_iload hX dX8_change_62 4 rfl ?_
        refine zv_ixor hX dX8_change_64 ?_
        refine zv_cSI [.int (v6 ^^^ v4)] (rest := []) hX hT.2.2.2.2 (c_X8_bitsOf (zx_Y X) (v6 ^^^ v4) s) wv_X8_bitsOf wm_X8_233 rfl (Nat.le_of_ble_eq_true rfl) (Nat.le_of_ble_eq_true rfl) rfl (Nat.le_of_ble_eq_true rfl) dX8_change_65 (fun r8 s9 => ?_)
        refine zv_iload hX dX8_change_68 5 rfl ?_
        refine zv_iload hX dX8_change_70 4 rfl ?_
        refine zv_ixor hX dX8_change_72 ?_
        refine zv_cSI [.int (v5 ^^^ v4)] (rest := [.int r8]) hX hT.2.2.2.2 (c_X8_bitsOf (zx_Y X) (v5 ^^^ v4) s9) wv_X8_bitsOf wm_X8_233 rfl (Nat.le_of_ble_eq_true rfl) (Nat.le_of_ble_eq_true rfl) rfl (Nat.le_of_ble_eq_true rfl) dX8_change_73 (fun r10 s11 => ?_)
        refine zv_icmp_lt (tgt := 82) hX dX8_change_76 rfl ?_ ?_
        · exact b_X8_change_82 hX hT ih v1 v2 v3 v4 v5 v6 s11
        · refine zv_goto (tgt := 111) hX dX8_change_79 rfl ?_
          exact b_X8_change_111 hX hT ih v1 v2 v3 v4 v5 v6 s11
def f_X8_change (v1 : Int32) (v2 : Int32) (v3 : Int32) (s : zS) : Option (Int32 × zS) :=
  zb (zs_i s 76 0 (0 : Int32)) fun s12 =>
  zbd (f_X8_areTwo (v1.toInt64) (v2.toInt64) s12) fun r13 s14 =>
  if r13 = 0 then
  (f_X8_change_26 s14)
  else
  zbd (f_X8_within (v3.toInt64) (0 : Int64) (1 : Int64) s14) fun r15 s16 =>
  if ¬ r15 = 0 then
  ((zr_i s16 77 ((nI 29) + v1)).bind fun x17 =>
  f_X8_change_46 zFU v1 v2 v3 x17 (-1 : Int32) (0 : Int32) s16)
  else
  f_X8_change_26 s16
set_option maxRecDepth 20000 in
theorem c_X8_change (Y : zG) (v1 : Int32) (v2 : Int32) (v3 : Int32) (s : zS) : zM Y yX8_change cX8_change 7 (some .int) (zR 69 1713) [.ref (zy_a Y 76), .int v1, .int v2, .int v3] s zrI (f_X8_change v1 v2 v3 s) := by
  refine zm_start (by decide +kernel) (Nat.le_of_ble_eq_true rfl) ?_
  intro X hY hT hX
  subst hY
  have hX : zx_ok X cX8_change RX8 7 := hX
  show zV X (zq X zrI) 7 0 [(0, .ref (zx_ad X 76)), (1, .int v1), (2, .int v2), (3, .int v3)] [] s _
  unfold f_X8_change
  refine zv_aload_n hX dX8_change_0 0 rfl ?_
  refine zv_iconst (v := (0 : Int32)) hX dX8_change_1 zi_i_0 ?_
  refine zv_puti hX wf_X8_1 wc_8 wk_8_0 zd_76 zj_76_0 c9_8 zr_76_0 dX8_change_2 (fun s12 => ?_)
  refine zv_aload_n hX dX8_change_5 0 rfl ?_
  refine zv_iload_n hX dX8_change_6 1 rfl ?_
  refine zv_i2l hX dX8_change_7 ?_
  refine zv_iload_n hX dX8_change_8 2 rfl ?_
  refine zv_i2l hX dX8_change_9 ?_
  refine zv_cVI [.long (v1.toInt64), .long (v2.toInt64)] (rest := []) hX hT.2.2.2.2 (c_X8_areTwo (zx_Y X) (v1.toInt64) (v2.toInt64) s12) wv_X8_areTwo c9_8 zd_76 wm_X8_290 rfl (Nat.le_of_ble_eq_true rfl) (Nat.le_of_ble_eq_true rfl) rfl (Nat.le_of_ble_eq_true rfl) dX8_change_10 (fun r13 s14 => ?_)
  refine zv_if_eq (tgt := 26) hX dX8_change_13 rfl ?_ ?_
  · exact zv_sub [] rfl (b_X8_change_26 hX hT  s14)
  · refine zv_iload_n hX dX8_change_16 3 rfl ?_
    refine zv_i2l hX dX8_change_17 ?_
    refine zv_lconst (v := (0 : Int64)) hX dX8_change_18 zi_l_0 ?_
    refine zv_lconst (v := (1 : Int64)) hX dX8_change_19 zi_l_1 ?_
    refine zv_cSI [.long (v3.toInt64), .long (0 : Int64), .long (1 : Int64)] (rest := []) hX hT.2.2.2.2 (c_X8_within (zx_Y X) (v3.toInt64) (0 : Int64) (1 : Int64) s14) wv_X8_within wm_X8_154 rfl (Nat.le_of_ble_eq_true rfl) (Nat.le_of_ble_eq_true rfl) rfl (Nat.le_of_ble_eq_true rfl) dX8_change_20 (fun r15 s16 => ?_)
    refine zv_if_ne (tgt := 29) hX dX8_change_23 rfl ?_ ?_
    · refine zv_aload_n hX dX8_change_29 0 rfl ?_
      refine zv_geta hX wf_X8_13 wc_8 zd_76 zj_76_1 c9_8 zr_76_1 (by decide) dX8_change_30 ?_
      refine zv_bipush (v := (nI 29)) hX dX8_change_33 zi_b_29 ?_
      refine zv_iload_n hX dX8_change_35 1 rfl ?_
      refine zv_iadd hX dX8_change_36 ?_
      refine zv_iald hX dX8_change_37 (fun x17 => ?_)
      refine zv_istore (lv' := [(4, .int x17), (0, .ref (zx_ad X 76)), (1, .int v1), (2, .int v2), (3, .int v3)]) hX dX8_change_38 (by decide) rfl ?_
      refine zv_iconst (v := (-1 : Int32)) hX dX8_change_40 zi_i_m1 ?_
      refine zv_istore (lv' := [(5, .int (-1 : Int32)), (4, .int x17), (0, .ref (zx_ad X 76)), (1, .int v1), (2, .int v2), (3, .int v3)]) hX dX8_change_41 (by decide) rfl ?_
      refine zv_iconst (v := (0 : Int32)) hX dX8_change_43 zi_i_0 ?_
      refine zv_istore (lv' := [(6, .int (0 : Int32)), (5, .int (-1 : Int32)), (4, .int x17), (0, .ref (zx_ad X 76)), (1, .int v1), (2, .int v2), (3, .int v3)]) hX dX8_change_44 (by decide) rfl ?_
      exact zv_sub [3, 4, 5, 6, 2, 1, 0] rfl (b_X8_change_46 hX hT zFU v1 v2 v3 x17 (-1 : Int32) (0 : Int32) s16)
    · exact zv_sub [] rfl (b_X8_change_26 hX hT  s16)
