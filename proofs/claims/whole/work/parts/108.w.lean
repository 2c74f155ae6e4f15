theorem dX1_doYear_0 : decode cX1_doYear 0 = .ok (.aload_n 0, 1) := by decide +kernel
theorem dX1_doYear_1 : decode cX1_doYear 1 = .ok (.iload_n 1, 1) := by decide +kernel
theorem dX1_doYear_2 : decode cX1_doYear 2 = .ok (.putfield 99, 3) := by decide +kernel
theorem dX1_doYear_5 : decode cX1_doYear 5 = .ok (.iconst 0, 1) := by decide +kernel
theorem dX1_doYear_6 : decode cX1_doYear 6 = .ok (.istore_n 3, 1) := by decide +kernel
theorem dX1_doYear_7 : decode cX1_doYear 7 = .ok (.iconst 0, 1) := by decide +kernel
theorem dX1_doYear_8 : decode cX1_doYear 8 = .ok (.istore 4, 2) := by decide +kernel
theorem dX1_doYear_10 : decode cX1_doYear 10 = .ok (.iload 4, 2) := by decide +kernel
theorem dX1_doYear_12 : decode cX1_doYear 12 = .ok (.iload_n 2, 1) := by decide +kernel
theorem dX1_doYear_13 : decode cX1_doYear 13 = .ok (.if_icmp .ge 98, 3) := by decide +kernel
theorem dX1_doYear_16 : decode cX1_doYear 16 = .ok (.iconst 0, 1) := by decide +kernel
theorem dX1_doYear_17 : decode cX1_doYear 17 = .ok (.aload_n 0, 1) := by decide +kernel
theorem dX1_doYear_18 : decode cX1_doYear 18 = .ok (.bipush 6, 2) := by decide +kernel
theorem dX1_doYear_20 : decode cX1_doYear 20 = .ok (.invokevirtual 102, 3) := by decide +kernel
theorem dX1_doYear_23 : decode cX1_doYear 23 = .ok (.iconst 2, 1) := by decide +kernel
theorem dX1_doYear_24 : decode cX1_doYear 24 = .ok (.isub, 1) := by decide +kernel
theorem dX1_doYear_25 : decode cX1_doYear 25 = .ok (.invokestatic 105, 3) := by decide +kernel
theorem dX1_doYear_28 : decode cX1_doYear 28 = .ok (.istore 5, 2) := by decide +kernel
theorem dX1_doYear_30 : decode cX1_doYear 30 = .ok (.aload_n 0, 1) := by decide +kernel
theorem dX1_doYear_31 : decode cX1_doYear 31 = .ok (.bipush 7, 2) := by decide +kernel
theorem dX1_doYear_33 : decode cX1_doYear 33 = .ok (.invokevirtual 102, 3) := by decide +kernel
theorem dX1_doYear_36 : decode cX1_doYear 36 = .ok (.istore 6, 2) := by decide +kernel
theorem dX1_doYear_38 : decode cX1_doYear 38 = .ok (.iload 5, 2) := by decide +kernel
theorem dX1_doYear_40 : decode cX1_doYear 40 = .ok (.iconst 1, 1) := by decide +kernel
theorem dX1_doYear_41 : decode cX1_doYear 41 = .ok (.if_icmp .ne 14, 3) := by decide +kernel
theorem dX1_doYear_44 : decode cX1_doYear 44 = .ok (.aload_n 0, 1) := by decide +kernel
theorem dX1_doYear_45 : decode cX1_doYear 45 = .ok (.iload 6, 2) := by decide +kernel
theorem dX1_doYear_47 : decode cX1_doYear 47 = .ok (.invokevirtual 90, 3) := by decide +kernel
theorem dX1_doYear_50 : decode cX1_doYear 50 = .ok (.istore 7, 2) := by decide +kernel
theorem dX1_doYear_52 : decode cX1_doYear 52 = .ok (.goto 40, 3) := by decide +kernel
theorem dX1_doYear_55 : decode cX1_doYear 55 = .ok (.aload_n 0, 1) := by decide +kernel
theorem dX1_doYear_56 : decode cX1_doYear 56 = .ok (.iload 5, 2) := by decide +kernel
theorem dX1_doYear_58 : decode cX1_doYear 58 = .ok (.iload 6, 2) := by decide +kernel
theorem dX1_doYear_60 : decode cX1_doYear 60 = .ok (.aload_n 0, 1) := by decide +kernel
theorem dX1_doYear_61 : decode cX1_doYear 61 = .ok (.iload 5, 2) := by decide +kernel
theorem dX1_doYear_63 : decode cX1_doYear 63 = .ok (.ifCond .ne 8, 3) := by decide +kernel
theorem dX1_doYear_66 : decode cX1_doYear 66 = .ok (.bipush 7, 2) := by decide +kernel
theorem dX1_doYear_68 : decode cX1_doYear 68 = .ok (.goto 16, 3) := by decide +kernel
theorem dX1_doYear_71 : decode cX1_doYear 71 = .ok (.iload 5, 2) := by decide +kernel
theorem dX1_doYear_73 : decode cX1_doYear 73 = .ok (.iconst 2, 1) := by decide +kernel
theorem dX1_doYear_74 : decode cX1_doYear 74 = .ok (.if_icmp .ne 8, 3) := by decide +kernel
theorem dX1_doYear_77 : decode cX1_doYear 77 = .ok (.bipush 9, 2) := by decide +kernel
theorem dX1_doYear_79 : decode cX1_doYear 79 = .ok (.goto 5, 3) := by decide +kernel
theorem dX1_doYear_82 : decode cX1_doYear 82 = .ok (.bipush 10, 2) := by decide +kernel
theorem dX1_doYear_84 : decode cX1_doYear 84 = .ok (.invokevirtual 102, 3) := by decide +kernel
theorem dX1_doYear_87 : decode cX1_doYear 87 = .ok (.invokevirtual 82, 3) := by decide +kernel
theorem dX1_doYear_90 : decode cX1_doYear 90 = .ok (.istore 7, 2) := by decide +kernel
theorem dX1_doYear_92 : decode cX1_doYear 92 = .ok (.iload_n 3, 1) := by decide +kernel
theorem dX1_doYear_93 : decode cX1_doYear 93 = .ok (.iload 7, 2) := by decide +kernel
theorem dX1_doYear_95 : decode cX1_doYear 95 = .ok (.ifCond .ne 7, 3) := by decide +kernel
theorem dX1_doYear_98 : decode cX1_doYear 98 = .ok (.iconst 1, 1) := by decide +kernel
theorem dX1_doYear_99 : decode cX1_doYear 99 = .ok (.goto 4, 3) := by decide +kernel
theorem dX1_doYear_102 : decode cX1_doYear 102 = .ok (.iconst 0, 1) := by decide +kernel
theorem dX1_doYear_103 : decode cX1_doYear 103 = .ok (.iadd, 1) := by decide +kernel
theorem dX1_doYear_104 : decode cX1_doYear 104 = .ok (.istore_n 3, 1) := by decide +kernel
theorem dX1_doYear_105 : decode cX1_doYear 105 = .ok (.iinc 4 1, 3) := by decide +kernel
theorem dX1_doYear_108 : decode cX1_doYear 108 = .ok (.goto (-98), 3) := by decide +kernel
theorem dX1_doYear_111 : decode cX1_doYear 111 = .ok (.iload_n 3, 1) := by decide +kernel
theorem dX1_doYear_112 : decode cX1_doYear 112 = .ok (.ireturn, 1) := by decide +kernel
def f_X1_doYear_103 (kb_10 : Int32 → Int32 → Int32 → zS → Option (Int32 × zS)) (v2 : Int32) (v4 : Int32) (w0 : Int32) (w1 : Int32) (s : zS) : Option (Int32 × zS) :=
  zb (w1 + w0) fun x1 =>
  zb (v4 + (1 : Int32)) fun x2 =>
  kb_10 v2 x1 x2 s
set_option maxRecDepth 20000 in
theorem b_X1_doYear_103 {X : zX} {kb_10 : Int32 → Int32 → Int32 → zS → Option (Int32 × zS)} (hX : zx_ok X cX1_doYear RX1 8) (hT : zx_rt X (some .int) (zR 6 145)) (hk_10 : ∀ (v2 : Int32) (v3 : Int32) (v4 : Int32) (s : zS), zV X (zq X zrI) 8 10 [(0, .ref (zx_ad X 72)), (2, .int v2), (3, .int v3), (4, .int v4)] [] s (kb_10 v2 v3 v4 s)) : ∀ (v2 : Int32) (v4 : Int32) (w0 : Int32) (w1 : Int32) (s : zS), zV X (zq X zrI) 8 103 [(0, .ref (zx_ad X 72)), (2, .int v2), (4, .int v4)] [.int w0, .int w1] s (f_X1_doYear_103 kb_10 v2 v4 w0 w1 s) := by
  intro v2 v4 w0 w1 s
  unfold f_X1_doYear_103
  refine zv_iadd hX dX1_doYear_103 ?_
  refine zv_istB_n (lw := fun x1 => [(3, .int x1), (0, .ref (zx_ad X 72)), (2, .int v2), (4, .int v4)]) hX dX1_doYear_104 (by decide) (fun _ => rfl) (fun x1 => ?_)
  refine zv_iincB (lw := fun x2 => [(4, .int x2), (3, .int x1), (0, .ref (zx_ad X 72)), (2, .int v2)]) hX dX1_doYear_105 3 rfl zi_i_1 (by decide) (fun _ => rfl) (fun x2 => ?_)
  refine zv_goto (tgt := 10) hX dX1_doYear_108 rfl ?_
  exact zv_sub [2, 3, 1, 0] rfl (hk_10 v2 x1 x2 s)
def f_X1_doYear_92 (kb_10 : Int32 → Int32 → Int32 → zS → Option (Int32 × zS)) (v2 : Int32) (v3 : Int32) (v4 : Int32) (v7 : Int32) (s : zS) : Option (Int32 × zS) :=
  if ¬ v7 = 0 then
  (f_X1_doYear_103 kb_10 v2 v4 (0 : Int32) v3 s)
  else
  f_X1_doYear_103 kb_10 v2 v4 (1 : Int32) v3 s
set_option maxRecDepth 20000 in
theorem b_X1_doYear_92 {X : zX} {kb_10 : Int32 → Int32 → Int32 → zS → Option (Int32 × zS)} (hX : zx_ok X cX1_doYear RX1 8) (hT : zx_rt X (some .int) (zR 6 145)) (hk_10 : ∀ (v2 : Int32) (v3 : Int32) (v4 : Int32) (s : zS), zV X (zq X zrI) 8 10 [(0, .ref (zx_ad X 72)), (2, .int v2), (3, .int v3), (4, .int v4)] [] s (kb_10 v2 v3 v4 s)) : ∀ (v2 : Int32) (v3 : Int32) (v4 : Int32) (v7 : Int32) (s : zS), zV X (zq X zrI) 8 92 [(0, .ref (zx_ad X 72)), (2, .int v2), (3, .int v3), (4, .int v4), (7, .int v7)] [] s (f_X1_doYear_92 kb_10 v2 v3 v4 v7 s) := by
  intro v2 v3 v4 v7 s
  unfold f_X1_doYear_92
  refine zv_iload_n hX dX1_doYear_92 2 rfl ?_
  refine zv_iload hX dX1_doYear_93 4 rfl ?_
  refine zv_if_ne (tgt := 102) hX dX1_doYear_95 rfl ?_ ?_
  · refine zv_iconst (v := (0 : Int32)) hX dX1_doYear_102 zi_i_0 ?_
    exact zv_sub [0, 1, 3] rfl (b_X1_doYear_103 hX hT hk_10 v2 v4 (0 : Int32) v3 s)
  · refine zv_iconst (v := (1 : Int32)) hX dX1_doYear_98 zi_i_1 ?_
    refine zv_goto (tgt := 103) hX dX1_doYear_99 rfl ?_
    exact zv_sub [0, 1, 3] rfl (b_X1_doYear_103 hX hT hk_10 v2 v4 (1 : Int32) v3 s)
def f_X1_doYear_84 (kb_10 : Int32 → Int32 → Int32 → zS → Option (Int32 × zS)) (v2 : Int32) (v3 : Int32) (v4 : Int32) (w0 : Int32) (w2 : Int32) (w3 : Int32) (s : zS) : Option (Int32 × zS) :=
  zbd (f_X1_draw w0 s) fun r3 s4 =>
  zbd (f_X1_tryDeed w3 w2 r3 s4) fun r5 s6 =>
  f_X1_doYear_92 kb_10 v2 v3 v4 r5 s6
set_option maxRecDepth 20000 in
theorem b_X1_doYear_84 {X : zX} {kb_10 : Int32 → Int32 → Int32 → zS → Option (Int32 × zS)} (hX : zx_ok X cX1_doYear RX1 8) (hT : zx_rt X (some .int) (zR 6 145)) (hk_10 : ∀ (v2 : Int32) (v3 : Int32) (v4 : Int32) (s : zS), zV X (zq X zrI) 8 10 [(0, .ref (zx_ad X 72)), (2, .int v2), (3, .int v3), (4, .int v4)] [] s (kb_10 v2 v3 v4 s)) : ∀ (v2 : Int32) (v3 : Int32) (v4 : Int32) (w0 : Int32) (w2 : Int32) (w3 : Int32) (s : zS), zV X (zq X zrI) 8 84 [(0, .ref (zx_ad X 72)), (2, .int v2), (3, .int v3), (4, .int v4)] [.int w0, .ref (zx_ad X 72), .int w2, .int w3, .ref (zx_ad X 72)] s (f_X1_doYear_84 kb_10 v2 v3 v4 w0 w2 w3 s) := by
  intro v2 v3 v4 w0 w2 w3 s
  unfold f_X1_doYear_84
  refine zv_cVI [.int w0] (rest := [.int w2, .int w3, .ref (zx_ad X 72)]) hX hT.2.2.2.2 (c_X1_draw (zx_Y X) w0 s) wv_X1_draw c9_1 zd_72 wm_X1_102 rfl (Nat.le_of_ble_eq_true rfl) (Nat.le_of_ble_eq_true rfl) rfl (Nat.le_of_ble_eq_true rfl) dX1_doYear_84 (fun r3 s4 => ?_)
  refine zv_cVI [.int w3, .int w2, .int r3] (rest := []) hX hT.2.2.2.2 (c_X1_tryDeed (zx_Y X) w3 w2 r3 s4) wv_X1_tryDeed c9_1 zd_72 wm_X1_82 rfl (Nat.le_of_ble_eq_true rfl) (Nat.le_of_ble_eq_true rfl) rfl (Nat.le_of_ble_eq_true rfl) dX1_doYear_87 (fun r5 s6 => ?_)
  refine zv_istore (lv' := [(7, .int r5), (0, .ref (zx_ad X 72)), (2, .int v2), (3, .int v3), (4, .int v4)]) hX dX1_doYear_90 (by decide) rfl ?_
  exact zv_sub [1, 2, 3, 4, 0] rfl (b_X1_doYear_92 hX hT hk_10 v2 v3 v4 r5 s6)
def f_X1_doYear_10 : Nat → Int32 → Int32 → Int32 → zS → Option (Int32 × zS)
  | 0, _, _, _, _ => none
  | n + 1, v2, v3, v4, s =>
    if v2 ≤ v4 then
    (some (v3, s))
    else
    zbd (f_X1_draw (nI 6) s) fun r7 s8 =>
    zbd (f_J9_max_7cf53 (0 : Int32) (r7 - (nI 2)) s8) fun r9 s10 =>
    zbd (f_X1_draw (nI 7) s10) fun r11 s12 =>
    if ¬ r9 = (1 : Int32) then
    (if ¬ r9 = 0 then
    (if ¬ r9 = (nI 2) then
    (f_X1_doYear_84 (f_X1_doYear_10 n) v2 v3 v4 (nI 10) r11 r9 s12)
    else
    f_X1_doYear_84 (f_X1_doYear_10 n) v2 v3 v4 (nI 9) r11 r9 s12)
    else
    f_X1_doYear_84 (f_X1_doYear_10 n) v2 v3 v4 (nI 7) r11 r9 s12)
    else
    zbd (f_X1_tryPart r11 s12) fun r13 s14 =>
    f_X1_doYear_92 (f_X1_doYear_10 n) v2 v3 v4 r13 s14
set_option maxRecDepth 20000 in
theorem b_X1_doYear_10 {X : zX} (hX : zx_ok X cX1_doYear RX1 8) (hT : zx_rt X (some .int) (zR 6 145)) : ∀ (n : Nat) (v2 : Int32) (v3 : Int32) (v4 : Int32) (s : zS), zV X (zq X zrI) 8 10 [(0, .ref (zx_ad X 72)), (2, .int v2), (3, .int v3), (4, .int v4)] [] s (f_X1_doYear_10 n v2 v3 v4 s) := by
  intro n
  induction n with
  | zero => intro v2 v3 v4 s; exact zv_none
  | succ n ih =>
    intro v2 v3 v4 s
    rw [f_X1_doYear_10]
    refine zv_iload hX dX1_doYear_10 3 rfl ?_
    refine zv_iload_n hX dX1_doYear_12 1 rfl ?_
    refine zv_icmp_ge (tgt := 111) hX dX1_doYear_13 rfl ?_ ?_
    · refine zv_iload_n hX dX1_doYear_111 2 rfl ?_
      exact zv_ireti hX hT dX1_doYear_112
    · refine zv_iconst (v := (0 : Int32)) hX dX1_doYear_16 zi_i_0 ?_
      refine zv_aload_n hX dX1_doYear_17 0 rfl ?_
      refine zv_bipush (v := (nI 6)) hX dX1_doYear_18 zi_b_6 ?_
      refine zv_cVI [.int (nI 6)] (rest := [.int (0 : Int32)]) hX hT.2.2.2.2 (c_X1_draw (zx_Y X) (nI 6) s) wv_X1_draw c9_1 zd_72 wm_X1_102 rfl (Nat.le_of_ble_eq_true rfl) (Nat.le_of_ble_eq_true rfl) rfl (Nat.le_of_ble_eq_true rfl) dX1_doYear_20 (fun r7 s8 => ?_)
      refine zv_iconst (v := (nI 2)) hX dX1_doYear_23 zi_i_2 ?_
      refine zv_isub hX dX1_doYear_24 ?_
      refine zv_cSI [.int (0 : Int32), .int (r7 - (nI 2))] (rest := []) hX hT.2.2.2.2 (c_J9_max_7cf53 (zx_Y X) (0 : Int32) (r7 - (nI 2)) s8) wv_J9_max_7cf53 wm_X1_105 rfl (Nat.le_of_ble_eq_true rfl) (Nat.le_of_ble_eq_true rfl) rfl (Nat.le_of_ble_eq_true rfl) dX1_doYear_25 (fun r9 s10 => ?_)
      refine zv_istore (lv' := [(5, .int r9), (0, .ref (zx_ad X 72)), (2, .int v2), (3, .int v3), (4, .int v4)]) hX dX1_doYear_28 (by decide) rfl ?_
      refine zv_aload_n hX dX1_doYear_30 1 rfl ?_
      refine zv_bipush (v := (nI 7)) hX dX1_doYear_31 zi_b_7 ?_
      refine zv_cVI [.int (nI 7)] (rest := []) hX hT.2.2.2.2 (c_X1_draw (zx_Y X) (nI 7) s10) wv_X1_draw c9_1 zd_72 wm_X1_102 rfl (Nat.le_of_ble_eq_true rfl) (Nat.le_of_ble_eq_true rfl) rfl (Nat.le_of_ble_eq_true rfl) dX1_doYear_33 (fun r11 s12 => ?_)
      refine zv_istore (lv' := [(6, .int r11), (5, .int r9), (0, .ref (zx_ad X 72)), (2, .int v2), (3, .int v3), (4, .int v4)]) hX dX1_doYear_36 (by decide) rfl ?_
      refine zv_iload hX dX1_doYear_38 1 rfl ?_
      refine zv_iconst (v := (1 : Int32)) hX dX1_doYear_40 zi_i_1 ?_
      refine zv_icmp_ne (tgt := 55) hX dX1_doYear_41 rfl ?_ ?_
      · refine zv_aload_n hX dX1_doYear_55 2 rfl ?_
        refine zv_iload hX dX1_doYear_56 1 rfl ?_
        refine zv_iload hX dX1_doYear_58 0 rfl ?_
        refine zv_aload_n hX dX1_doYear_60 2 rfl ?_
        refine zv_iload hX dX1_doYear_61 1 rfl ?_
        refine zv_if_ne (tgt := 71) hX dX1_doYear_63 rfl ?_ ?_
        · refine zv_iload hX dX1_doYear_71 1 rfl ?_
          refine zv_iconst (v := (nI 2)) hX dX1_doYear_73 zi_i_2 ?_
          refine zv_icmp_ne (tgt := 82) hX dX1_doYear_74 rfl ?_ ?_
          · refine zv_bipush (v := (nI 10)) hX dX1_doYear_82 zi_b_10 ?_
            exact zv_sub [2, 3, 4, 5] rfl (b_X1_doYear_84 hX hT ih v2 v3 v4 (nI 10) r11 r9 s12)
          · refine zv_bipush (v := (nI 9)) hX dX1_doYear_77 zi_b_9 ?_
            refine zv_goto (tgt := 84) hX dX1_doYear_79 rfl ?_
            exact zv_sub [2, 3, 4, 5] rfl (b_X1_doYear_84 hX hT ih v2 v3 v4 (nI 9) r11 r9 s12)
        · refine zv_bipush (v := (nI 7)) hX dX1_doYear_66 zi_b_7 ?_
          refine zv_goto (tgt := 84) hX dX1_doYear_68 rfl ?_
          exact zv_sub [2, 3, 4, 5] rfl (b_X1_doYear_84 hX hT ih v2 v3 v4 (nI 7) r11 r9 s12)
      · refine zv_aload_n hX dX1_doYear_44 2 rfl ?_
        refine zv_iload hX dX1_doYear_45 0 rfl ?_
        refine zv_cVI [.int r11] (rest := []) hX hT.2.2.2.2 (c_X1_tryPart (zx_Y X) r11 s12) wv_X1_tryPart c9_1 zd_72 wm_X1_90 rfl (Nat.le_of_ble_eq_true rfl) (Nat.le_of_ble_eq_true rfl) rfl (Nat.le_of_ble_eq_true rfl) dX1_doYear_47 (fun r13 s14 => ?_)
        refine zv_istore (lv' := [(7, .int r13), (6, .int r11), (5, .int r9), (0, .ref (zx_ad X 72)), (2, .int v2), (3, .int v3), (4, .int v4)]) hX dX1_doYear_50 (by decide) rfl ?_
        refine zv_goto (tgt := 92) hX dX1_doYear_52 rfl ?_
        exact zv_sub [3, 4, 5, 6, 0] rfl (b_X1_doYear_92 hX hT ih v2 v3 v4 r13 s14)
def f_X1_doYear (v1 : Int32) (v2 : Int32) (s : zS) : Option (Int32 × zS) :=
  zb (zs_i s 72 5 v1) fun s15 =>
  f_X1_doYear_10 zFU v2 (0 : Int32) (0 : Int32) s15
set_option maxRecDepth 20000 in
theorem c_X1_doYear (Y : zG) (v1 : Int32) (v2 : Int32) (s : zS) : zM Y yX1_doYear cX1_doYear 8 (some .int) (zR 6 145) [.ref (zy_a Y 72), .int v1, .int v2] s zrI (f_X1_doYear v1 v2 s) := by
  refine zm_start (by decide +kernel) (Nat.le_of_ble_eq_true rfl) ?_
  intro X hY hT hX
  subst hY
  have hX : zx_ok X cX1_doYear RX1 8 := hX
  show zV X (zq X zrI) 8 0 [(0, .ref (zx_ad X 72)), (1, .int v1), (2, .int v2)] [] s _
  unfold f_X1_doYear
  refine zv_aload_n hX dX1_doYear_0 0 rfl ?_
  refine zv_iload_n hX dX1_doYear_1 1 rfl ?_
  refine zv_puti hX wf_X1_99 wc_1 wk_1_5 zd_72 zj_72_5 c9_1 zr_72_5 dX1_doYear_2 (fun s15 => ?_)
  refine zv_iconst (v := (0 : Int32)) hX dX1_doYear_5 zi_i_0 ?_
  refine zv_istore_n (lv' := [(3, .int (0 : Int32)), (0, .ref (zx_ad X 72)), (1, .int v1), (2, .int v2)]) hX dX1_doYear_6 (by decide) rfl ?_
  refine zv_iconst (v := (0 : Int32)) hX dX1_doYear_7 zi_i_0 ?_
  refine zv_istore (lv' := [(4, .int (0 : Int32)), (3, .int (0 : Int32)), (0, .ref (zx_ad X 72)), (1, .int v1), (2, .int v2)]) hX dX1_doYear_8 (by decide) rfl ?_
  exact zv_sub [2, 4, 1, 0] rfl (b_X1_doYear_10 hX hT zFU v2 (0 : Int32) (0 : Int32) s15)
theorem dX2_forget_0 : decode cX2_forget 0 = .ok (.aload_n 0, 1) := by decide +kernel
theorem dX2_forget_1 : decode cX2_forget 1 = .ok (.iconst 0, 1) := by decide +kernel
theorem dX2_forget_2 : decode cX2_forget 2 = .ok (.putfield 22, 3) := by decide +kernel
theorem dX2_forget_5 : decode cX2_forget 5 = .ok (.return_, 1) := by decide +kernel
def f_X2_forget  (s : zS) : Option (Unit × zS) :=
  zb (zs_i s 73 3 (0 : Int32)) fun s1 =>
  some ((), s1)
set_option maxRecDepth 20000 in
theorem c_X2_forget (Y : zG)  (s : zS) : zM Y yX2_forget cX2_forget 1 none (zR 0 0) [.ref (zy_a Y 73)] s zrV (f_X2_forget  s) := by
  refine zm_start (by decide +kernel) (Nat.le_of_ble_eq_true rfl) ?_
  intro X hY hT hX
  subst hY
  have hX : zx_ok X cX2_forget RX2 1 := hX
  show zV X (zq X zrV) 1 0 [(0, .ref (zx_ad X 73))] [] s _
  unfold f_X2_forget
  refine zv_aload_n hX dX2_forget_0 0 rfl ?_
  refine zv_iconst (v := (0 : Int32)) hX dX2_forget_1 zi_i_0 ?_
  refine zv_puti hX wf_X2_22 wc_2 wk_2_3 zd_73 zj_73_3 c9_2 zr_73_3 dX2_forget_2 (fun s1 => ?_)
  exact zv_vret hX hT dX2_forget_5
theorem dX2_giveBack_0 : decode cX2_giveBack 0 = .ok (.iconst 0, 1) := by decide +kernel
theorem dX2_giveBack_1 : decode cX2_giveBack 1 = .ok (.istore_n 1, 1) := by decide +kernel
theorem dX2_giveBack_2 : decode cX2_giveBack 2 = .ok (.iload_n 1, 1) := by decide +kernel
theorem dX2_giveBack_3 : decode cX2_giveBack 3 = .ok (.bipush 7, 2) := by decide +kernel
theorem dX2_giveBack_5 : decode cX2_giveBack 5 = .ok (.if_icmp .ge 62, 3) := by decide +kernel
theorem dX2_giveBack_8 : decode cX2_giveBack 8 = .ok (.aload_n 0, 1) := by decide +kernel
theorem dX2_giveBack_9 : decode cX2_giveBack 9 = .ok (.getfield 18, 3) := by decide +kernel
theorem dX2_giveBack_12 : decode cX2_giveBack 12 = .ok (.getfield 26, 3) := by decide +kernel
theorem dX2_giveBack_15 : decode cX2_giveBack 15 = .ok (.iload_n 1, 1) := by decide +kernel
theorem dX2_giveBack_16 : decode cX2_giveBack 16 = .ok (.aload_n 0, 1) := by decide +kernel
theorem dX2_giveBack_17 : decode cX2_giveBack 17 = .ok (.getfield 15, 3) := by decide +kernel
theorem dX2_giveBack_20 : decode cX2_giveBack 20 = .ok (.iconst 3, 1) := by decide +kernel
theorem dX2_giveBack_21 : decode cX2_giveBack 21 = .ok (.iload_n 1, 1) := by decide +kernel
theorem dX2_giveBack_22 : decode cX2_giveBack 22 = .ok (.imul, 1) := by decide +kernel
theorem dX2_giveBack_23 : decode cX2_giveBack 23 = .ok (.iaload, 1) := by decide +kernel
theorem dX2_giveBack_24 : decode cX2_giveBack 24 = .ok (.iastore, 1) := by decide +kernel
theorem dX2_giveBack_25 : decode cX2_giveBack 25 = .ok (.aload_n 0, 1) := by decide +kernel
theorem dX2_giveBack_26 : decode cX2_giveBack 26 = .ok (.getfield 18, 3) := by decide +kernel
theorem dX2_giveBack_29 : decode cX2_giveBack 29 = .ok (.iload_n 1, 1) := by decide +kernel
theorem dX2_giveBack_30 : decode cX2_giveBack 30 = .ok (.aload_n 0, 1) := by decide +kernel
theorem dX2_giveBack_31 : decode cX2_giveBack 31 = .ok (.getfield 15, 3) := by decide +kernel
theorem dX2_giveBack_34 : decode cX2_giveBack 34 = .ok (.iconst 3, 1) := by decide +kernel
theorem dX2_giveBack_35 : decode cX2_giveBack 35 = .ok (.iload_n 1, 1) := by decide +kernel
theorem dX2_giveBack_36 : decode cX2_giveBack 36 = .ok (.imul, 1) := by decide +kernel
theorem dX2_giveBack_37 : decode cX2_giveBack 37 = .ok (.iconst 1, 1) := by decide +kernel
theorem dX2_giveBack_38 : decode cX2_giveBack 38 = .ok (.iadd, 1) := by decide +kernel
theorem dX2_giveBack_39 : decode cX2_giveBack 39 = .ok (.iaload, 1) := by decide +kernel
theorem dX2_giveBack_40 : decode cX2_giveBack 40 = .ok (.invokevirtual 46, 3) := by decide +kernel
theorem dX2_giveBack_43 : decode cX2_giveBack 43 = .ok (.aload_n 0, 1) := by decide +kernel
theorem dX2_giveBack_44 : decode cX2_giveBack 44 = .ok (.getfield 18, 3) := by decide +kernel
theorem dX2_giveBack_47 : decode cX2_giveBack 47 = .ok (.iload_n 1, 1) := by decide +kernel
theorem dX2_giveBack_48 : decode cX2_giveBack 48 = .ok (.aload_n 0, 1) := by decide +kernel
theorem dX2_giveBack_49 : decode cX2_giveBack 49 = .ok (.getfield 15, 3) := by decide +kernel
theorem dX2_giveBack_52 : decode cX2_giveBack 52 = .ok (.iconst 3, 1) := by decide +kernel
theorem dX2_giveBack_53 : decode cX2_giveBack 53 = .ok (.iload_n 1, 1) := by decide +kernel
theorem dX2_giveBack_54 : decode cX2_giveBack 54 = .ok (.imul, 1) := by decide +kernel
theorem dX2_giveBack_55 : decode cX2_giveBack 55 = .ok (.iconst 2, 1) := by decide +kernel
theorem dX2_giveBack_56 : decode cX2_giveBack 56 = .ok (.iadd, 1) := by decide +kernel
theorem dX2_giveBack_57 : decode cX2_giveBack 57 = .ok (.iaload, 1) := by decide +kernel
theorem dX2_giveBack_58 : decode cX2_giveBack 58 = .ok (.invokevirtual 50, 3) := by decide +kernel
theorem dX2_giveBack_61 : decode cX2_giveBack 61 = .ok (.iinc 1 1, 3) := by decide +kernel
theorem dX2_giveBack_64 : decode cX2_giveBack 64 = .ok (.goto (-62), 3) := by decide +kernel
theorem dX2_giveBack_67 : decode cX2_giveBack 67 = .ok (.return_, 1) := by decide +kernel
def f_X2_giveBack_2 : Nat → Int32 → zS → Option (Unit × zS)
  | 0, _, _ => none
  | n + 1, v1, s =>
    if (nI 7) ≤ v1 then
    (some ((), s))
    else
    (zr_i s 75 ((nI 3) * v1)).bind fun x1 =>
    (zw_i s 8 v1 x1).bind fun s2 =>
    (zr_i s2 75 (((nI 3) * v1) + (1 : Int32))).bind fun x3 =>
    zbd (f_X5_setSign_3 v1 x3 s2) fun _ s4 =>
    (zr_i s4 75 (((nI 3) * v1) + (nI 2))).bind fun x5 =>
    zbd (f_X5_setMark_3 v1 x5 s4) fun _ s6 =>
    zb (v1 + (1 : Int32)) fun x7 =>
    f_X2_giveBack_2 n x7 s6
set_option maxRecDepth 20000 in
theorem b_X2_giveBack_2 {X : zX} (hX : zx_ok X cX2_giveBack RX2 2) (hT : zx_rt X none (zR 1 22)) : ∀ (n : Nat) (v1 : Int32) (s : zS), zV X (zq X zrV) 2 2 [(0, .ref (zx_ad X 73)), (1, .int v1)] [] s (f_X2_giveBack_2 n v1 s) := by
  intro n
  induction n with
  | zero => intro v1 s; exact zv_none
  | succ n ih =>
    intro v1 s
    rw [f_X2_giveBack_2]
    refine zv_iload_n hX dX2_giveBack_2 1 rfl ?_
    refine zv_bipush (v := (nI 7)) hX dX2_giveBack_3 zi_b_7 ?_
    refine zv_icmp_ge (tgt := 67) hX dX2_giveBack_5 rfl ?_ ?_
    · exact zv_vret hX hT dX2_giveBack_67
    · refine zv_aload_n hX dX2_giveBack_8 0 rfl ?_
      refine zv_geta hX wf_X2_18 wc_2 zd_73 zj_73_0 c9_2 zr_73_0 (by decide) dX2_giveBack_9 ?_
      refine zv_geta hX wf_X2_26 wc_5 zd_3 zj_3_6 c9_5 zr_3_6 (by decide) dX2_giveBack_12 ?_
      refine zv_iload_n hX dX2_giveBack_15 1 rfl ?_
      refine zv_aload_n hX dX2_giveBack_16 0 rfl ?_
      refine zv_geta hX wf_X2_15 wc_2 zd_73 zj_73_2 c9_2 zr_73_2 (by decide) dX2_giveBack_17 ?_
      refine zv_iconst (v := (nI 3)) hX dX2_giveBack_20 zi_i_3 ?_
      refine zv_iload_n hX dX2_giveBack_21 1 rfl ?_
      refine zv_imul hX dX2_giveBack_22 ?_
      refine zv_iald hX dX2_giveBack_23 (fun x1 => ?_)
      refine zv_iast hX dX2_giveBack_24 (fun s2 => ?_)
      refine zv_aload_n hX dX2_giveBack_25 0 rfl ?_
      refine zv_geta hX wf_X2_18 wc_2 zd_73 zj_73_0 c9_2 zr_73_0 (by decide) dX2_giveBack_26 ?_
      refine zv_iload_n hX dX2_giveBack_29 1 rfl ?_
      refine zv_aload_n hX dX2_giveBack_30 0 rfl ?_
      refine zv_geta hX wf_X2_15 wc_2 zd_73 zj_73_2 c9_2 zr_73_2 (by decide) dX2_giveBack_31 ?_
      refine zv_iconst (v := (nI 3)) hX dX2_giveBack_34 zi_i_3 ?_
      refine zv_iload_n hX dX2_giveBack_35 1 rfl ?_
      refine zv_imul hX dX2_giveBack_36 ?_
      refine zv_iconst (v := (1 : Int32)) hX dX2_giveBack_37 zi_i_1 ?_
      refine zv_iadd hX dX2_giveBack_38 ?_
      refine zv_iald hX dX2_giveBack_39 (fun x3 => ?_)
      refine zv_cVV [.int v1, .int x3] (rest := []) hX hT.2.2.2.2 (c_X5_setSign_3 (zx_Y X) v1 x3 s2) wv_X5_setSign c9_5 zd_3 wm_X2_46 rfl (Nat.le_of_ble_eq_true rfl) (Nat.le_of_ble_eq_true rfl) rfl (Nat.le_of_ble_eq_true rfl) dX2_giveBack_40 (fun _ s4 => ?_)
      refine zv_aload_n hX dX2_giveBack_43 0 rfl ?_
      refine zv_geta hX wf_X2_18 wc_2 zd_73 zj_73_0 c9_2 zr_73_0 (by decide) dX2_giveBack_44 ?_
      refine zv_iload_n hX dX2_giveBack_47 1 rfl ?_
      refine zv_aload_n hX dX2_giveBack_48 0 rfl ?_
      refine zv_geta hX wf_X2_15 wc_2 zd_73 zj_73_2 c9_2 zr_73_2 (by decide) dX2_giveBack_49 ?_
      refine zv_iconst (v := (nI 3)) hX dX2_giveBack_52 zi_i_3 ?_
      refine zv_iload_n hX dX2_giveBack_53 1 rfl ?_
      refine zv_imul hX dX2_giveBack_54 ?_
      refine zv_iconst (v := (nI 2)) hX dX2_giveBack_55 zi_i_2 ?_
      refine zv_iadd hX dX2_giveBack_56 ?_
      refine zv_iald hX dX2_giveBack_57 (fun x5 => ?_)
      refine zv_cVV [.int v1, .int x5] (rest := []) hX hT.2.2.2.2 (c_X5_setMark_3 (zx_Y X) v1 x5 s4) wv_X5_setMark c9_5 zd_3 wm_X2_50 rfl (Nat.le_of_ble_eq_true rfl) (Nat.le_of_ble_eq_true rfl) rfl (Nat.le_of_ble_eq_true rfl) dX2_giveBack_58 (fun _ s6 => ?_)
      refine zv_iincB (lw := fun x7 => [(1, .int x7), (0, .ref (zx_ad X 73))]) hX dX2_giveBack_61 1 rfl zi_i_1 (by decide) (fun _ => rfl) (fun x7 => ?_)
      refine zv_goto (tgt := 2) hX dX2_giveBack_64 rfl ?_
      exact zv_sub [1, 0] rfl (ih x7 s6)
def f_X2_giveBack  (s : zS) : Option (Unit × zS) :=
  f_X2_giveBack_2 zFU (0 : Int32) s
set_option maxRecDepth 20000 in
theorem c_X2_giveBack (Y : zG)  (s : zS) : zM Y yX2_giveBack cX2_giveBack 2 none (zR 1 22) [.ref (zy_a Y 73)] s zrV (f_X2_giveBack  s) := by
  refine zm_start (by decide +kernel) (Nat.le_of_ble_eq_true rfl) ?_
  intro X hY hT hX
  subst hY
  have hX : zx_ok X cX2_giveBack RX2 2 := hX
  show zV X (zq X zrV) 2 0 [(0, .ref (zx_ad X 73))] [] s _
  unfold f_X2_giveBack
  refine zv_iconst (v := (0 : Int32)) hX dX2_giveBack_0 zi_i_0 ?_
  refine zv_istore_n (lv' := [(1, .int (0 : Int32)), (0, .ref (zx_ad X 73))]) hX dX2_giveBack_1 (by decide) rfl ?_
  exact zv_sub [1, 0] rfl (b_X2_giveBack_2 hX hT zFU (0 : Int32) s)
theorem dX2_goBack_0 : decode cX2_goBack 0 = .ok (.iload_n 1, 1) := by decide +kernel
theorem dX2_goBack_1 : decode cX2_goBack 1 = .ok (.iconst 1, 1) := by decide +kernel
theorem dX2_goBack_2 : decode cX2_goBack 2 = .ok (.if_icmp .lt 11, 3) := by decide +kernel
theorem dX2_goBack_5 : decode cX2_goBack 5 = .ok (.iload_n 1, 1) := by decide +kernel
theorem dX2_goBack_6 : decode cX2_goBack 6 = .ok (.aload_n 0, 1) := by decide +kernel
theorem dX2_goBack_7 : decode cX2_goBack 7 = .ok (.getfield 22, 3) := by decide +kernel
theorem dX2_goBack_10 : decode cX2_goBack 10 = .ok (.if_icmp .le 4, 3) := by decide +kernel
theorem dX2_goBack_13 : decode cX2_goBack 13 = .ok (.return_, 1) := by decide +kernel
theorem dX2_goBack_14 : decode cX2_goBack 14 = .ok (.aload_n 0, 1) := by decide +kernel
theorem dX2_goBack_15 : decode cX2_goBack 15 = .ok (.dup, 1) := by decide +kernel
theorem dX2_goBack_16 : decode cX2_goBack 16 = .ok (.getfield 22, 3) := by decide +kernel
theorem dX2_goBack_19 : decode cX2_goBack 19 = .ok (.iload_n 1, 1) := by decide +kernel
theorem dX2_goBack_20 : decode cX2_goBack 20 = .ok (.isub, 1) := by decide +kernel
theorem dX2_goBack_21 : decode cX2_goBack 21 = .ok (.putfield 22, 3) := by decide +kernel
theorem dX2_goBack_24 : decode cX2_goBack 24 = .ok (.aload_n 0, 1) := by decide +kernel
theorem dX2_goBack_25 : decode cX2_goBack 25 = .ok (.getfield 11, 3) := by decide +kernel
theorem dX2_goBack_28 : decode cX2_goBack 28 = .ok (.aload_n 0, 1) := by decide +kernel
theorem dX2_goBack_29 : decode cX2_goBack 29 = .ok (.getfield 22, 3) := by decide +kernel
theorem dX2_goBack_32 : decode cX2_goBack 32 = .ok (.bipush 21, 2) := by decide +kernel
theorem dX2_goBack_34 : decode cX2_goBack 34 = .ok (.imul, 1) := by decide +kernel
theorem dX2_goBack_35 : decode cX2_goBack 35 = .ok (.aload_n 0, 1) := by decide +kernel
theorem dX2_goBack_36 : decode cX2_goBack 36 = .ok (.getfield 15, 3) := by decide +kernel
theorem dX2_goBack_39 : decode cX2_goBack 39 = .ok (.iconst 0, 1) := by decide +kernel
theorem dX2_goBack_40 : decode cX2_goBack 40 = .ok (.bipush 21, 2) := by decide +kernel
theorem dX2_goBack_42 : decode cX2_goBack 42 = .ok (.invokestatic 37, 3) := by decide +kernel
theorem dX2_goBack_45 : decode cX2_goBack 45 = .ok (.aload_n 0, 1) := by decide +kernel
theorem dX2_goBack_46 : decode cX2_goBack 46 = .ok (.invokevirtual 43, 3) := by decide +kernel
theorem dX2_goBack_49 : decode cX2_goBack 49 = .ok (.return_, 1) := by decide +kernel
def f_X2_goBack_13  (s : zS) : Option (Unit × zS) :=
  some ((), s)
set_option maxRecDepth 20000 in
theorem b_X2_goBack_13 {X : zX} (hX : zx_ok X cX2_goBack RX2 2) (hT : zx_rt X none (zR 2 80)) : ∀  (s : zS), zV X (zq X zrV) 2 13 [] [] s (f_X2_goBack_13  s) := by
  intro  s
  unfold f_X2_goBack_13
  exact zv_vret hX hT dX2_goBack_13
def f_X2_goBack (v1 : Int32) (s : zS) : Option (Unit × zS) :=
  if v1 < (1 : Int32) then
  (f_X2_goBack_13 s)
  else
  if v1 ≤ (s.1 73 3) then
  (zb (zs_i s 73 3 ((s.1 73 3) - v1)) fun s1 =>
  (zw_c s1 74 ((s1.1 73 3) * (nI 21)) 75 (0 : Int32) (nI 21)).bind fun s2 =>
  zbd (f_X2_giveBack s2) fun _ s3 =>
  some ((), s3))
  else
  f_X2_goBack_13 s
set_option maxRecDepth 20000 in
theorem c_X2_goBack (Y : zG) (v1 : Int32) (s : zS) : zM Y yX2_goBack cX2_goBack 2 none (zR 2 80) [.ref (zy_a Y 73), .int v1] s zrV (f_X2_goBack v1 s) := by
  refine zm_start (by decide +kernel) (Nat.le_of_ble_eq_true rfl) ?_
  intro X hY hT hX
  subst hY
  have hX : zx_ok X cX2_goBack RX2 2 := hX
  show zV X (zq X zrV) 2 0 [(0, .ref (zx_ad X 73)), (1, .int v1)] [] s _
  unfold f_X2_goBack
  refine zv_iload_n hX dX2_goBack_0 1 rfl ?_
  refine zv_iconst (v := (1 : Int32)) hX dX2_goBack_1 zi_i_1 ?_
  refine zv_icmp_lt (tgt := 13) hX dX2_goBack_2 rfl ?_ ?_
  · exact zv_sub [] rfl (b_X2_goBack_13 hX hT  s)
  · refine zv_iload_n hX dX2_goBack_5 1 rfl ?_
    refine zv_aload_n hX dX2_goBack_6 0 rfl ?_
    refine zv_geti hX wf_X2_22 wc_2 zd_73 zj_73_3 c9_2 zr_73_3 dX2_goBack_7 ?_
    refine zv_icmp_le (tgt := 14) hX dX2_goBack_10 rfl ?_ ?_
    · refine zv_aload_n hX dX2_goBack_14 0 rfl ?_
      refine zv_dup hX dX2_goBack_15 rfl ?_
      refine zv_geti hX wf_X2_22 wc_2 zd_73 zj_73_3 c9_2 zr_73_3 dX2_goBack_16 ?_
      refine zv_iload_n hX dX2_goBack_19 1 rfl ?_
      refine zv_isub hX dX2_goBack_20 ?_
      refine zv_puti hX wf_X2_22 wc_2 wk_2_3 zd_73 zj_73_3 c9_2 zr_73_3 dX2_goBack_21 (fun s1 => ?_)
      refine zv_aload_n hX dX2_goBack_24 0 rfl ?_
      refine zv_geta hX wf_X2_11 wc_2 zd_73 zj_73_1 c9_2 zr_73_1 (by decide) dX2_goBack_25 ?_
      refine zv_aload_n hX dX2_goBack_28 0 rfl ?_
      refine zv_geti hX wf_X2_22 wc_2 zd_73 zj_73_3 c9_2 zr_73_3 dX2_goBack_29 ?_
      refine zv_bipush (v := (nI 21)) hX dX2_goBack_32 zi_b_21 ?_
      refine zv_imul hX dX2_goBack_34 ?_
      refine zv_aload_n hX dX2_goBack_35 0 rfl ?_
      refine zv_geta hX wf_X2_15 wc_2 zd_73 zj_73_2 c9_2 zr_73_2 (by decide) dX2_goBack_36 ?_
      refine zv_iconst (v := (0 : Int32)) hX dX2_goBack_39 zi_i_0 ?_
      refine zv_bipush (v := (nI 21)) hX dX2_goBack_40 zi_b_21 ?_
      refine zv_copy hX wm_X2_37 wa_native wa_static wa_init (by rw [hT.2.2.2.2]; exact Nat.le_of_ble_eq_true rfl) (by rw [hT.2.2.2.2]; exact Nat.le_of_ble_eq_true rfl) dX2_goBack_42 (fun s2 => ?_)
      refine zv_aload_n hX dX2_goBack_45 0 rfl ?_
      refine zv_cVV [] (rest := []) hX hT.2.2.2.2 (c_X2_giveBack (zx_Y X) s2) wv_X2_giveBack c9_2 zd_73 wm_X2_43 rfl (Nat.le_of_ble_eq_true rfl) (Nat.le_of_ble_eq_true rfl) rfl (Nat.le_of_ble_eq_true rfl) dX2_goBack_46 (fun _ s3 => ?_)
      exact zv_vret hX hT dX2_goBack_49
    · exact zv_sub [] rfl (b_X2_goBack_13 hX hT  s)
theorem dX2_hold_0 : decode cX2_hold 0 = .ok (.iconst 0, 1) := by decide +kernel
theorem dX2_hold_1 : decode cX2_hold 1 = .ok (.istore_n 1, 1) := by decide +kernel
theorem dX2_hold_2 : decode cX2_hold 2 = .ok (.iload_n 1, 1) := by decide +kernel
theorem dX2_hold_3 : decode cX2_hold 3 = .ok (.bipush 7, 2) := by decide +kernel
theorem dX2_hold_5 : decode cX2_hold 5 = .ok (.if_icmp .ge 64, 3) := by decide +kernel
theorem dX2_hold_8 : decode cX2_hold 8 = .ok (.aload_n 0, 1) := by decide +kernel
theorem dX2_hold_9 : decode cX2_hold 9 = .ok (.getfield 15, 3) := by decide +kernel
theorem dX2_hold_12 : decode cX2_hold 12 = .ok (.iconst 3, 1) := by decide +kernel
theorem dX2_hold_13 : decode cX2_hold 13 = .ok (.iload_n 1, 1) := by decide +kernel
theorem dX2_hold_14 : decode cX2_hold 14 = .ok (.imul, 1) := by decide +kernel
theorem dX2_hold_15 : decode cX2_hold 15 = .ok (.aload_n 0, 1) := by decide +kernel
theorem dX2_hold_16 : decode cX2_hold 16 = .ok (.getfield 18, 3) := by decide +kernel
theorem dX2_hold_19 : decode cX2_hold 19 = .ok (.getfield 26, 3) := by decide +kernel
theorem dX2_hold_22 : decode cX2_hold 22 = .ok (.iload_n 1, 1) := by decide +kernel
theorem dX2_hold_23 : decode cX2_hold 23 = .ok (.iaload, 1) := by decide +kernel
theorem dX2_hold_24 : decode cX2_hold 24 = .ok (.iastore, 1) := by decide +kernel
theorem dX2_hold_25 : decode cX2_hold 25 = .ok (.aload_n 0, 1) := by decide +kernel
theorem dX2_hold_26 : decode cX2_hold 26 = .ok (.getfield 15, 3) := by decide +kernel
theorem dX2_hold_29 : decode cX2_hold 29 = .ok (.iconst 3, 1) := by decide +kernel
theorem dX2_hold_30 : decode cX2_hold 30 = .ok (.iload_n 1, 1) := by decide +kernel
theorem dX2_hold_31 : decode cX2_hold 31 = .ok (.imul, 1) := by decide +kernel
theorem dX2_hold_32 : decode cX2_hold 32 = .ok (.iconst 1, 1) := by decide +kernel
theorem dX2_hold_33 : decode cX2_hold 33 = .ok (.iadd, 1) := by decide +kernel
theorem dX2_hold_34 : decode cX2_hold 34 = .ok (.aload_n 0, 1) := by decide +kernel
theorem dX2_hold_35 : decode cX2_hold 35 = .ok (.getfield 18, 3) := by decide +kernel
theorem dX2_hold_38 : decode cX2_hold 38 = .ok (.getfield 31, 3) := by decide +kernel
theorem dX2_hold_41 : decode cX2_hold 41 = .ok (.iload_n 1, 1) := by decide +kernel
theorem dX2_hold_42 : decode cX2_hold 42 = .ok (.iaload, 1) := by decide +kernel
theorem dX2_hold_43 : decode cX2_hold 43 = .ok (.iastore, 1) := by decide +kernel
theorem dX2_hold_44 : decode cX2_hold 44 = .ok (.aload_n 0, 1) := by decide +kernel
theorem dX2_hold_45 : decode cX2_hold 45 = .ok (.getfield 15, 3) := by decide +kernel
theorem dX2_hold_48 : decode cX2_hold 48 = .ok (.iconst 3, 1) := by decide +kernel
theorem dX2_hold_49 : decode cX2_hold 49 = .ok (.iload_n 1, 1) := by decide +kernel
theorem dX2_hold_50 : decode cX2_hold 50 = .ok (.imul, 1) := by decide +kernel
theorem dX2_hold_51 : decode cX2_hold 51 = .ok (.iconst 2, 1) := by decide +kernel
theorem dX2_hold_52 : decode cX2_hold 52 = .ok (.iadd, 1) := by decide +kernel
theorem dX2_hold_53 : decode cX2_hold 53 = .ok (.aload_n 0, 1) := by decide +kernel
theorem dX2_hold_54 : decode cX2_hold 54 = .ok (.getfield 18, 3) := by decide +kernel
theorem dX2_hold_57 : decode cX2_hold 57 = .ok (.getfield 34, 3) := by decide +kernel
theorem dX2_hold_60 : decode cX2_hold 60 = .ok (.iload_n 1, 1) := by decide +kernel
theorem dX2_hold_61 : decode cX2_hold 61 = .ok (.iaload, 1) := by decide +kernel
theorem dX2_hold_62 : decode cX2_hold 62 = .ok (.iastore, 1) := by decide +kernel
theorem dX2_hold_63 : decode cX2_hold 63 = .ok (.iinc 1 1, 3) := by decide +kernel
theorem dX2_hold_66 : decode cX2_hold 66 = .ok (.goto (-64), 3) := by decide +kernel
theorem dX2_hold_69 : decode cX2_hold 69 = .ok (.return_, 1) := by decide +kernel
def f_X2_hold_2 : Nat → Int32 → zS → Option (Unit × zS)
  | 0, _, _ => none
  | n + 1, v1, s =>
    if (nI 7) ≤ v1 then
    (some ((), s))
    else
    (zr_i s 8 v1).bind fun x1 =>
    (zw_i s 75 ((nI 3) * v1) x1).bind fun s2 =>
    (zr_i s2 4 v1).bind fun x3 =>
    (zw_i s2 75 (((nI 3) * v1) + (1 : Int32)) x3).bind fun s4 =>
    (zr_i s4 5 v1).bind fun x5 =>
    (zw_i s4 75 (((nI 3) * v1) + (nI 2)) x5).bind fun s6 =>
    zb (v1 + (1 : Int32)) fun x7 =>
    f_X2_hold_2 n x7 s6
set_option maxRecDepth 20000 in
theorem b_X2_hold_2 {X : zX} (hX : zx_ok X cX2_hold RX2 2) (hT : zx_rt X none (zR 0 0)) : ∀ (n : Nat) (v1 : Int32) (s : zS), zV X (zq X zrV) 2 2 [(0, .ref (zx_ad X 73)), (1, .int v1)] [] s (f_X2_hold_2 n v1 s) := by
  intro n
  induction n with
  | zero => intro v1 s; exact zv_none
  | succ n ih =>
    intro v1 s
    rw [f_X2_hold_2]
    refine zv_iload_n hX dX2_hold_2 1 rfl ?_
    refine zv_bipush (v := (nI 7)) hX dX2_hold_3 zi_b_7 ?_
    refine zv_icmp_ge (tgt := 69) hX dX2_hold_5 rfl ?_ ?_
    · exact zv_vret hX hT dX2_hold_69
    · refine zv_aload_n hX dX2_hold_8 0 rfl ?_
      refine zv_geta hX wf_X2_15 wc_2 zd_73 zj_73_2 c9_2 zr_73_2 (by decide) dX2_hold_9 ?_
      refine zv_iconst (v := (nI 3)) hX dX2_hold_12 zi_i_3 ?_
      refine zv_iload_n hX dX2_hold_13 1 rfl ?_
      refine zv_imul hX dX2_hold_14 ?_
      refine zv_aload_n hX dX2_hold_15 0 rfl ?_
      refine zv_geta hX wf_X2_18 wc_2 zd_73 zj_73_0 c9_2 zr_73_0 (by decide) dX2_hold_16 ?_
      refine zv_geta hX wf_X2_26 wc_5 zd_3 zj_3_6 c9_5 zr_3_6 (by decide) dX2_hold_19 ?_
      refine zv_iload_n hX dX2_hold_22 1 rfl ?_
      refine zv_iald hX dX2_hold_23 (fun x1 => ?_)
      refine zv_iast hX dX2_hold_24 (fun s2 => ?_)
      refine zv_aload_n hX dX2_hold_25 0 rfl ?_
      refine zv_geta hX wf_X2_15 wc_2 zd_73 zj_73_2 c9_2 zr_73_2 (by decide) dX2_hold_26 ?_
      refine zv_iconst (v := (nI 3)) hX dX2_hold_29 zi_i_3 ?_
      refine zv_iload_n hX dX2_hold_30 1 rfl ?_
      refine zv_imul hX dX2_hold_31 ?_
      refine zv_iconst (v := (1 : Int32)) hX dX2_hold_32 zi_i_1 ?_
      refine zv_iadd hX dX2_hold_33 ?_
      refine zv_aload_n hX dX2_hold_34 0 rfl ?_
      refine zv_geta hX wf_X2_18 wc_2 zd_73 zj_73_0 c9_2 zr_73_0 (by decide) dX2_hold_35 ?_
      refine zv_geta hX wf_X2_31 wc_5 zd_3 zj_3_2 c9_5 zr_3_2 (by decide) dX2_hold_38 ?_
      refine zv_iload_n hX dX2_hold_41 1 rfl ?_
      refine zv_iald hX dX2_hold_42 (fun x3 => ?_)
      refine zv_iast hX dX2_hold_43 (fun s4 => ?_)
      refine zv_aload_n hX dX2_hold_44 0 rfl ?_
      refine zv_geta hX wf_X2_15 wc_2 zd_73 zj_73_2 c9_2 zr_73_2 (by decide) dX2_hold_45 ?_
      refine zv_iconst (v := (nI 3)) hX dX2_hold_48 zi_i_3 ?_
      refine zv_iload_n hX dX2_hold_49 1 rfl ?_
      refine zv_imul hX dX2_hold_50 ?_
      refine zv_iconst (v := (nI 2)) hX dX2_hold_51 zi_i_2 ?_
      refine zv_iadd hX dX2_hold_52 ?_
      refine zv_aload_n hX dX2_hold_53 0 rfl ?_
      refine zv_geta hX wf_X2_18 wc_2 zd_73 zj_73_0 c9_2 zr_73_0 (by decide) dX2_hold_54 ?_
      refine zv_geta hX wf_X2_34 wc_5 zd_3 zj_3_3 c9_5 zr_3_3 (by decide) dX2_hold_57 ?_
      refine zv_iload_n hX dX2_hold_60 1 rfl ?_
      refine zv_iald hX dX2_hold_61 (fun x5 => ?_)
      refine zv_iast hX dX2_hold_62 (fun s6 => ?_)
      refine zv_iincB (lw := fun x7 => [(1, .int x7), (0, .ref (zx_ad X 73))]) hX dX2_hold_63 1 rfl zi_i_1 (by decide) (fun _ => rfl) (fun x7 => ?_)
      refine zv_goto (tgt := 2) hX dX2_hold_66 rfl ?_
      exact zv_sub [1, 0] rfl (ih x7 s6)
def f_X2_hold  (s : zS) : Option (Unit × zS) :=
  f_X2_hold_2 zFU (0 : Int32) s
set_option maxRecDepth 20000 in
theorem c_X2_hold (Y : zG)  (s : zS) : zM Y yX2_hold cX2_hold 2 none (zR 0 0) [.ref (zy_a Y 73)] s zrV (f_X2_hold  s) := by
  refine zm_start (by decide +kernel) (Nat.le_of_ble_eq_true rfl) ?_
  intro X hY hT hX
  subst hY
  have hX : zx_ok X cX2_hold RX2 2 := hX
  show zV X (zq X zrV) 2 0 [(0, .ref (zx_ad X 73))] [] s _
  unfold f_X2_hold
  refine zv_iconst (v := (0 : Int32)) hX dX2_hold_0 zi_i_0 ?_
  refine zv_istore_n (lv' := [(1, .int (0 : Int32)), (0, .ref (zx_ad X 73))]) hX dX2_hold_1 (by decide) rfl ?_
  exact zv_sub [1, 0] rfl (b_X2_hold_2 hX hT zFU (0 : Int32) s)
theorem dX2_keep_0 : decode cX2_keep 0 = .ok (.aload_n 0, 1) := by decide +kernel
theorem dX2_keep_1 : decode cX2_keep 1 = .ok (.getfield 22, 3) := by decide +kernel
theorem dX2_keep_4 : decode cX2_keep 4 = .ok (.bipush 10, 2) := by decide +kernel
theorem dX2_keep_6 : decode cX2_keep 6 = .ok (.if_icmp .lt 30, 3) := by decide +kernel
theorem dX2_keep_9 : decode cX2_keep 9 = .ok (.aload_n 0, 1) := by decide +kernel
theorem dX2_keep_10 : decode cX2_keep 10 = .ok (.bipush 9, 2) := by decide +kernel
theorem dX2_keep_12 : decode cX2_keep 12 = .ok (.putfield 22, 3) := by decide +kernel
theorem dX2_keep_15 : decode cX2_keep 15 = .ok (.aload_n 0, 1) := by decide +kernel
theorem dX2_keep_16 : decode cX2_keep 16 = .ok (.getfield 11, 3) := by decide +kernel
theorem dX2_keep_19 : decode cX2_keep 19 = .ok (.bipush 21, 2) := by decide +kernel
theorem dX2_keep_21 : decode cX2_keep 21 = .ok (.aload_n 0, 1) := by decide +kernel
theorem dX2_keep_22 : decode cX2_keep 22 = .ok (.getfield 11, 3) := by decide +kernel
theorem dX2_keep_25 : decode cX2_keep 25 = .ok (.iconst 0, 1) := by decide +kernel
theorem dX2_keep_26 : decode cX2_keep 26 = .ok (.aload_n 0, 1) := by decide +kernel
theorem dX2_keep_27 : decode cX2_keep 27 = .ok (.getfield 22, 3) := by decide +kernel
theorem dX2_keep_30 : decode cX2_keep 30 = .ok (.bipush 21, 2) := by decide +kernel
theorem dX2_keep_32 : decode cX2_keep 32 = .ok (.imul, 1) := by decide +kernel
theorem dX2_keep_33 : decode cX2_keep 33 = .ok (.invokestatic 37, 3) := by decide +kernel
theorem dX2_keep_36 : decode cX2_keep 36 = .ok (.aload_n 0, 1) := by decide +kernel
theorem dX2_keep_37 : decode cX2_keep 37 = .ok (.getfield 15, 3) := by decide +kernel
theorem dX2_keep_40 : decode cX2_keep 40 = .ok (.iconst 0, 1) := by decide +kernel
theorem dX2_keep_41 : decode cX2_keep 41 = .ok (.aload_n 0, 1) := by decide +kernel
theorem dX2_keep_42 : decode cX2_keep 42 = .ok (.getfield 11, 3) := by decide +kernel
theorem dX2_keep_45 : decode cX2_keep 45 = .ok (.aload_n 0, 1) := by decide +kernel
theorem dX2_keep_46 : decode cX2_keep 46 = .ok (.getfield 22, 3) := by decide +kernel
theorem dX2_keep_49 : decode cX2_keep 49 = .ok (.bipush 21, 2) := by decide +kernel
theorem dX2_keep_51 : decode cX2_keep 51 = .ok (.imul, 1) := by decide +kernel
theorem dX2_keep_52 : decode cX2_keep 52 = .ok (.bipush 21, 2) := by decide +kernel
theorem dX2_keep_54 : decode cX2_keep 54 = .ok (.invokestatic 37, 3) := by decide +kernel
theorem dX2_keep_57 : decode cX2_keep 57 = .ok (.aload_n 0, 1) := by decide +kernel
theorem dX2_keep_58 : decode cX2_keep 58 = .ok (.dup, 1) := by decide +kernel
theorem dX2_keep_59 : decode cX2_keep 59 = .ok (.getfield 22, 3) := by decide +kernel
theorem dX2_keep_62 : decode cX2_keep 62 = .ok (.iconst 1, 1) := by decide +kernel
theorem dX2_keep_63 : decode cX2_keep 63 = .ok (.iadd, 1) := by decide +kernel
theorem dX2_keep_64 : decode cX2_keep 64 = .ok (.putfield 22, 3) := by decide +kernel
theorem dX2_keep_67 : decode cX2_keep 67 = .ok (.return_, 1) := by decide +kernel
def f_X2_keep_36  (s : zS) : Option (Unit × zS) :=
  (zw_c s 75 (0 : Int32) 74 ((s.1 73 3) * (nI 21)) (nI 21)).bind fun s1 =>
  zb (zs_i s1 73 3 ((s1.1 73 3) + (1 : Int32))) fun s2 =>
  some ((), s2)
set_option maxRecDepth 20000 in
theorem b_X2_keep_36 {X : zX} (hX : zx_ok X cX2_keep RX2 1) (hT : zx_rt X none (zR 1 80)) : ∀  (s : zS), zV X (zq X zrV) 1 36 [(0, .ref (zx_ad X 73))] [] s (f_X2_keep_36  s) := by
  intro  s
  unfold f_X2_keep_36
  refine zv_aload_n hX dX2_keep_36 0 rfl ?_
  refine zv_geta hX wf_X2_15 wc_2 zd_73 zj_73_2 c9_2 zr_73_2 (by decide) dX2_keep_37 ?_
  refine zv_iconst (v := (0 : Int32)) hX dX2_keep_40 zi_i_0 ?_
  refine zv_aload_n hX dX2_keep_41 0 rfl ?_
  refine zv_geta hX wf_X2_11 wc_2 zd_73 zj_73_1 c9_2 zr_73_1 (by decide) dX2_keep_42 ?_
  refine zv_aload_n hX dX2_keep_45 0 rfl ?_
  refine zv_geti hX wf_X2_22 wc_2 zd_73 zj_73_3 c9_2 zr_73_3 dX2_keep_46 ?_
  refine zv_bipush (v := (nI 21)) hX dX2_keep_49 zi_b_21 ?_
  refine zv_imul hX dX2_keep_51 ?_
  refine zv_bipush (v := (nI 21)) hX dX2_keep_52 zi_b_21 ?_
  refine zv_copy hX wm_X2_37 wa_native wa_static wa_init (by rw [hT.2.2.2.2]; exact Nat.le_of_ble_eq_true rfl) (by rw [hT.2.2.2.2]; exact Nat.le_of_ble_eq_true rfl) dX2_keep_54 (fun s1 => ?_)
  refine zv_aload_n hX dX2_keep_57 0 rfl ?_
  refine zv_dup hX dX2_keep_58 rfl ?_
  refine zv_geti hX wf_X2_22 wc_2 zd_73 zj_73_3 c9_2 zr_73_3 dX2_keep_59 ?_
  refine zv_iconst (v := (1 : Int32)) hX dX2_keep_62 zi_i_1 ?_
  refine zv_iadd hX dX2_keep_63 ?_
  refine zv_puti hX wf_X2_22 wc_2 wk_2_3 zd_73 zj_73_3 c9_2 zr_73_3 dX2_keep_64 (fun s2 => ?_)
  exact zv_vret hX hT dX2_keep_67
def f_X2_keep  (s : zS) : Option (Unit × zS) :=
  if (s.1 73 3) < (nI 10) then
  (f_X2_keep_36 s)
  else
  zb (zs_i s 73 3 (nI 9)) fun s3 =>
  (zw_c s3 74 (nI 21) 74 (0 : Int32) ((s3.1 73 3) * (nI 21))).bind fun s4 =>
  f_X2_keep_36 s4
set_option maxRecDepth 20000 in
theorem c_X2_keep (Y : zG)  (s : zS) : zM Y yX2_keep cX2_keep 1 none (zR 1 80) [.ref (zy_a Y 73)] s zrV (f_X2_keep  s) := by
  refine zm_start (by decide +kernel) (Nat.le_of_ble_eq_true rfl) ?_
  intro X hY hT hX
  subst hY
  have hX : zx_ok X cX2_keep RX2 1 := hX
  show zV X (zq X zrV) 1 0 [(0, .ref (zx_ad X 73))] [] s _
  unfold f_X2_keep
  refine zv_aload_n hX dX2_keep_0 0 rfl ?_
  refine zv_geti hX wf_X2_22 wc_2 zd_73 zj_73_3 c9_2 zr_73_3 dX2_keep_1 ?_
  refine zv_bipush (v := (nI 10)) hX dX2_keep_4 zi_b_10 ?_
  refine zv_icmp_lt (tgt := 36) hX dX2_keep_6 rfl ?_ ?_
  · exact b_X2_keep_36 hX hT  s
  · refine zv_aload_n hX dX2_keep_9 0 rfl ?_
    refine zv_bipush (v := (nI 9)) hX dX2_keep_10 zi_b_9 ?_
    refine zv_puti hX wf_X2_22 wc_2 wk_2_3 zd_73 zj_73_3 c9_2 zr_73_3 dX2_keep_12 (fun s3 => ?_)
    refine zv_aload_n hX dX2_keep_15 0 rfl ?_
    refine zv_geta hX wf_X2_11 wc_2 zd_73 zj_73_1 c9_2 zr_73_1 (by decide) dX2_keep_16 ?_
    refine zv_bipush (v := (nI 21)) hX dX2_keep_19 zi_b_21 ?_
    refine zv_aload_n hX dX2_keep_21 0 rfl ?_
    refine zv_geta hX wf_X2_11 wc_2 zd_73 zj_73_1 c9_2 zr_73_1 (by decide) dX2_keep_22 ?_
    refine zv_iconst (v := (0 : Int32)) hX dX2_keep_25 zi_i_0 ?_
    refine zv_aload_n hX dX2_keep_26 0 rfl ?_
    refine zv_geti hX wf_X2_22 wc_2 zd_73 zj_73_3 c9_2 zr_73_3 dX2_keep_27 ?_
    refine zv_bipush (v := (nI 21)) hX dX2_keep_30 zi_b_21 ?_
    refine zv_imul hX dX2_keep_32 ?_
    refine zv_copy hX wm_X2_37 wa_native wa_static wa_init (by rw [hT.2.2.2.2]; exact Nat.le_of_ble_eq_true rfl) (by rw [hT.2.2.2.2]; exact Nat.le_of_ble_eq_true rfl) dX2_keep_33 (fun s4 => ?_)
    exact b_X2_keep_36 hX hT  s4
theorem dX3_emit_0 : decode cX3_emit 0 = .ok (.aload_n 0, 1) := by decide +kernel
theorem dX3_emit_1 : decode cX3_emit 1 = .ok (.getfield 12, 3) := by decide +kernel
theorem dX3_emit_4 : decode cX3_emit 4 = .ok (.getfield 113, 3) := by decide +kernel
theorem dX3_emit_7 : decode cX3_emit 7 = .ok (.sipush 900, 3) := by decide +kernel
theorem dX3_emit_10 : decode cX3_emit 10 = .ok (.if_icmp .ge 32, 3) := by decide +kernel
theorem dX3_emit_13 : decode cX3_emit 13 = .ok (.aload_n 0, 1) := by decide +kernel
theorem dX3_emit_14 : decode cX3_emit 14 = .ok (.getfield 12, 3) := by decide +kernel
theorem dX3_emit_17 : decode cX3_emit 17 = .ok (.getfield 168, 3) := by decide +kernel
theorem dX3_emit_20 : decode cX3_emit 20 = .ok (.aload_n 0, 1) := by decide +kernel
theorem dX3_emit_21 : decode cX3_emit 21 = .ok (.getfield 12, 3) := by decide +kernel
theorem dX3_emit_24 : decode cX3_emit 24 = .ok (.getfield 113, 3) := by decide +kernel
theorem dX3_emit_27 : decode cX3_emit 27 = .ok (.iload_n 1, 1) := by decide +kernel
theorem dX3_emit_28 : decode cX3_emit 28 = .ok (.iastore, 1) := by decide +kernel
theorem dX3_emit_29 : decode cX3_emit 29 = .ok (.aload_n 0, 1) := by decide +kernel
theorem dX3_emit_30 : decode cX3_emit 30 = .ok (.getfield 12, 3) := by decide +kernel
theorem dX3_emit_33 : decode cX3_emit 33 = .ok (.dup, 1) := by decide +kernel
theorem dX3_emit_34 : decode cX3_emit 34 = .ok (.getfield 113, 3) := by decide +kernel
theorem dX3_emit_37 : decode cX3_emit 37 = .ok (.iconst 1, 1) := by decide +kernel
theorem dX3_emit_38 : decode cX3_emit 38 = .ok (.iadd, 1) := by decide +kernel
theorem dX3_emit_39 : decode cX3_emit 39 = .ok (.putfield 113, 3) := by decide +kernel
theorem dX3_emit_42 : decode cX3_emit 42 = .ok (.return_, 1) := by decide +kernel
def f_X3_emit_42  (s : zS) : Option (Unit × zS) :=
  some ((), s)
set_option maxRecDepth 20000 in
theorem b_X3_emit_42 {X : zX} (hX : zx_ok X cX3_emit RX3 2) (hT : zx_rt X none (zR 0 0)) : ∀  (s : zS), zV X (zq X zrV) 2 42 [] [] s (f_X3_emit_42  s) := by
  intro  s
  unfold f_X3_emit_42
  exact zv_vret hX hT dX3_emit_42
def f_X3_emit (v1 : Int32) (s : zS) : Option (Unit × zS) :=
  if (nI 900) ≤ (s.1 31 8) then
  (f_X3_emit_42 s)
  else
  (zw_i s 37 (s.1 31 8) v1).bind fun s1 =>
  zb (zs_i s1 31 8 ((s1.1 31 8) + (1 : Int32))) fun s2 =>
  f_X3_emit_42 s2
set_option maxRecDepth 20000 in
theorem c_X3_emit (Y : zG) (v1 : Int32) (s : zS) : zM Y yX3_emit cX3_emit 2 none (zR 0 0) [.ref (zy_a Y 30), .int v1] s zrV (f_X3_emit v1 s) := by
  refine zm_start (by decide +kernel) (Nat.le_of_ble_eq_true rfl) ?_
  intro X hY hT hX
  subst hY
  have hX : zx_ok X cX3_emit RX3 2 := hX
  show zV X (zq X zrV) 2 0 [(0, .ref (zx_ad X 30)), (1, .int v1)] [] s _
  unfold f_X3_emit
  refine zv_aload_n hX dX3_emit_0 0 rfl ?_
  refine zv_geta hX wf_X3_12 wc_3 zd_30 zj_30_0 c9_3 zr_30_0 (by decide) dX3_emit_1 ?_
  refine zv_geti hX wf_X3_113 wc_5 zd_31 zj_31_8 c9_5 zr_31_8 dX3_emit_4 ?_
  refine zv_sipush (v := (nI 900)) hX dX3_emit_7 zi_s_900 ?_
  refine zv_icmp_ge (tgt := 42) hX dX3_emit_10 rfl ?_ ?_
  · exact zv_sub [] rfl (b_X3_emit_42 hX hT  s)
  · refine zv_aload_n hX dX3_emit_13 0 rfl ?_
    refine zv_geta hX wf_X3_12 wc_3 zd_30 zj_30_0 c9_3 zr_30_0 (by decide) dX3_emit_14 ?_
    refine zv_geta hX wf_X3_168 wc_5 zd_31 zj_31_7 c9_5 zr_31_7 (by decide) dX3_emit_17 ?_
    refine zv_aload_n hX dX3_emit_20 0 rfl ?_
    refine zv_geta hX wf_X3_12 wc_3 zd_30 zj_30_0 c9_3 zr_30_0 (by decide) dX3_emit_21 ?_
    refine zv_geti hX wf_X3_113 wc_5 zd_31 zj_31_8 c9_5 zr_31_8 dX3_emit_24 ?_
    refine zv_iload_n hX dX3_emit_27 1 rfl ?_
    refine zv_iast hX dX3_emit_28 (fun s1 => ?_)
    refine zv_aload_n hX dX3_emit_29 0 rfl ?_
    refine zv_geta hX wf_X3_12 wc_3 zd_30 zj_30_0 c9_3 zr_30_0 (by decide) dX3_emit_30 ?_
    refine zv_dup hX dX3_emit_33 rfl ?_
    refine zv_geti hX wf_X3_113 wc_5 zd_31 zj_31_8 c9_5 zr_31_8 dX3_emit_34 ?_
    refine zv_iconst (v := (1 : Int32)) hX dX3_emit_37 zi_i_1 ?_
    refine zv_iadd hX dX3_emit_38 ?_
    refine zv_puti hX wf_X3_113 wc_5 wk_5_8 zd_31 zj_31_8 c9_5 zr_31_8 dX3_emit_39 (fun s2 => ?_)
    exact zv_sub [] rfl (b_X3_emit_42 hX hT  s2)
theorem dX3_isDigit_0 : decode cX3_isDigit 0 = .ok (.iload_n 0, 1) := by decide +kernel
theorem dX3_isDigit_1 : decode cX3_isDigit 1 = .ok (.bipush 48, 2) := by decide +kernel
theorem dX3_isDigit_3 : decode cX3_isDigit 3 = .ok (.if_icmp .lt 13, 3) := by decide +kernel
theorem dX3_isDigit_6 : decode cX3_isDigit 6 = .ok (.iload_n 0, 1) := by decide +kernel
theorem dX3_isDigit_7 : decode cX3_isDigit 7 = .ok (.bipush 57, 2) := by decide +kernel
theorem dX3_isDigit_9 : decode cX3_isDigit 9 = .ok (.if_icmp .gt 7, 3) := by decide +kernel
theorem dX3_isDigit_12 : decode cX3_isDigit 12 = .ok (.iconst 1, 1) := by decide +kernel
theorem dX3_isDigit_13 : decode cX3_isDigit 13 = .ok (.goto 4, 3) := by decide +kernel
theorem dX3_isDigit_16 : decode cX3_isDigit 16 = .ok (.iconst 0, 1) := by decide +kernel
theorem dX3_isDigit_17 : decode cX3_isDigit 17 = .ok (.ireturn, 1) := by decide +kernel
def f_X3_isDigit_17 (w0 : Int32) (s : zS) : Option (Int32 × zS) :=
  if w0 = 0 ∨ w0 = 1 then some (w0, s) else none
set_option maxRecDepth 20000 in
theorem b_X3_isDigit_17 {X : zX} (hX : zx_ok X cX3_isDigit RX3 1) (hT : zx_rt X (some .boolean) (zR 0 0)) : ∀ (w0 : Int32) (s : zS), zV X (zq X zrI) 1 17 [] [.int w0] s (f_X3_isDigit_17 w0 s) := by
  intro w0 s
  unfold f_X3_isDigit_17
  exact zv_iretzB hX hT dX3_isDigit_17
def f_X3_isDigit_16  (s : zS) : Option (Int32 × zS) :=
  f_X3_isDigit_17 (0 : Int32) s
set_option maxRecDepth 20000 in
theorem b_X3_isDigit_16 {X : zX} (hX : zx_ok X cX3_isDigit RX3 1) (hT : zx_rt X (some .boolean) (zR 0 0)) : ∀  (s : zS), zV X (zq X zrI) 1 16 [] [] s (f_X3_isDigit_16  s) := by
  intro  s
  unfold f_X3_isDigit_16
  refine zv_iconst (v := (0 : Int32)) hX dX3_isDigit_16 zi_i_0 ?_
  exact b_X3_isDigit_17 hX hT (0 : Int32) s
def f_X3_isDigit (v0 : Int32) (s : zS) : Option (Int32 × zS) :=
  if v0 < (nI 48) then
  (f_X3_isDigit_16 s)
  else
  if (nI 57) < v0 then
  (f_X3_isDigit_16 s)
  else
  f_X3_isDigit_17 (1 : Int32) s
set_option maxRecDepth 20000 in
theorem c_X3_isDigit (Y : zG) (v0 : Int32) (s : zS) : zM Y yX3_isDigit cX3_isDigit 1 (some .boolean) (zR 0 0) [.int v0] s zrI (f_X3_isDigit v0 s) := by
  refine zm_start (by decide +kernel) (Nat.le_of_ble_eq_true rfl) ?_
  intro X hY hT hX
  subst hY
  have hX : zx_ok X cX3_isDigit RX3 1 := hX
  show zV X (zq X zrI) 1 0 [(0, .int v0)] [] s _
  unfold f_X3_isDigit
  refine zv_iload_n hX dX3_isDigit_0 0 rfl ?_
  refine zv_bipush (v := (nI 48)) hX dX3_isDigit_1 zi_b_48 ?_
  refine zv_icmp_lt (tgt := 16) hX dX3_isDigit_3 rfl ?_ ?_
  · exact zv_sub [] rfl (b_X3_isDigit_16 hX hT  s)
  · refine zv_iload_n hX dX3_isDigit_6 0 rfl ?_
    refine zv_bipush (v := (nI 57)) hX dX3_isDigit_7 zi_b_57 ?_
    refine zv_icmp_gt (tgt := 16) hX dX3_isDigit_9 rfl ?_ ?_
    · exact zv_sub [] rfl (b_X3_isDigit_16 hX hT  s)
    · refine zv_iconst (v := (1 : Int32)) hX dX3_isDigit_12 zi_i_1 ?_
      refine zv_goto (tgt := 17) hX dX3_isDigit_13 rfl ?_
      exact zv_sub [] rfl (b_X3_isDigit_17 hX hT (1 : Int32) s)
theorem dX3_isLetter_0 : decode cX3_isLetter 0 = .ok (.iload_n 0, 1) := by decide +kernel
theorem dX3_isLetter_1 : decode cX3_isLetter 1 = .ok (.bipush 97, 2) := by decide +kernel
theorem dX3_isLetter_3 : decode cX3_isLetter 3 = .ok (.if_icmp .lt 13, 3) := by decide +kernel
theorem dX3_isLetter_6 : decode cX3_isLetter 6 = .ok (.iload_n 0, 1) := by decide +kernel
theorem dX3_isLetter_7 : decode cX3_isLetter 7 = .ok (.bipush 122, 2) := by decide +kernel
theorem dX3_isLetter_9 : decode cX3_isLetter 9 = .ok (.if_icmp .gt 7, 3) := by decide +kernel
theorem dX3_isLetter_12 : decode cX3_isLetter 12 = .ok (.iconst 1, 1) := by decide +kernel
theorem dX3_isLetter_13 : decode cX3_isLetter 13 = .ok (.goto 4, 3) := by decide +kernel
theorem dX3_isLetter_16 : decode cX3_isLetter 16 = .ok (.iconst 0, 1) := by decide +kernel
theorem dX3_isLetter_17 : decode cX3_isLetter 17 = .ok (.ireturn, 1) := by decide +kernel
def f_X3_isLetter_17 (w0 : Int32) (s : zS) : Option (Int32 × zS) :=
  if w0 = 0 ∨ w0 = 1 then some (w0, s) else none
set_option maxRecDepth 20000 in
theorem b_X3_isLetter_17 {X : zX} (hX : zx_ok X cX3_isLetter RX3 1) (hT : zx_rt X (some .boolean) (zR 0 0)) : ∀ (w0 : Int32) (s : zS), zV X (zq X zrI) 1 17 [] [.int w0] s (f_X3_isLetter_17 w0 s) := by
  intro w0 s
  unfold f_X3_isLetter_17
  exact zv_iretzB hX hT dX3_isLetter_17
def f_X3_isLetter_16  (s : zS) : Option (Int32 × zS) :=
  f_X3_isLetter_17 (0 : Int32) s
set_option maxRecDepth 20000 in
theorem b_X3_isLetter_16 {X : zX} (hX : zx_ok X cX3_isLetter RX3 1) (hT : zx_rt X (some .boolean) (zR 0 0)) : ∀  (s : zS), zV X (zq X zrI) 1 16 [] [] s (f_X3_isLetter_16  s) := by
  intro  s
  unfold f_X3_isLetter_16
  refine zv_iconst (v := (0 : Int32)) hX dX3_isLetter_16 zi_i_0 ?_
  exact b_X3_isLetter_17 hX hT (0 : Int32) s
def f_X3_isLetter (v0 : Int32) (s : zS) : Option (Int32 × zS) :=
  if v0 < (nI 97) then
  (f_X3_isLetter_16 s)
  else
  if (nI 122) < v0 then
  (f_X3_isLetter_16 s)
  else
  f_X3_isLetter_17 (1 : Int32) s
set_option maxRecDepth 20000 in
theorem c_X3_isLetter (Y : zG) (v0 : Int32) (s : zS) : zM Y yX3_isLetter cX3_isLetter 1 (some .boolean) (zR 0 0) [.int v0] s zrI (f_X3_isLetter v0 s) := by
  refine zm_start (by decide +kernel) (Nat.le_of_ble_eq_true rfl) ?_
  intro X hY hT hX
  subst hY
  have hX : zx_ok X cX3_isLetter RX3 1 := hX
  show zV X (zq X zrI) 1 0 [(0, .int v0)] [] s _
  unfold f_X3_isLetter
  refine zv_iload_n hX dX3_isLetter_0 0 rfl ?_
  refine zv_bipush (v := (nI 97)) hX dX3_isLetter_1 zi_b_97 ?_
  refine zv_icmp_lt (tgt := 16) hX dX3_isLetter_3 rfl ?_ ?_
  · exact zv_sub [] rfl (b_X3_isLetter_16 hX hT  s)
  · refine zv_iload_n hX dX3_isLetter_6 0 rfl ?_
    refine zv_bipush (v := (nI 122)) hX dX3_isLetter_7 zi_b_122 ?_
    refine zv_icmp_gt (tgt := 16) hX dX3_isLetter_9 rfl ?_ ?_
    · exact zv_sub [] rfl (b_X3_isLetter_16 hX hT  s)
    · refine zv_iconst (v := (1 : Int32)) hX dX3_isLetter_12 zi_i_1 ?_
      refine zv_goto (tgt := 17) hX dX3_isLetter_13 rfl ?_
      exact zv_sub [] rfl (b_X3_isLetter_17 hX hT (1 : Int32) s)
