theorem dX8_noTray_0 : decode cX8_noTray 0 = .ok (.iload_n 1, 1) := by decide +kernel
theorem dX8_noTray_1 : decode cX8_noTray 1 = .ok (.i2l, 1) := by decide +kernel
theorem dX8_noTray_2 : decode cX8_noTray 2 = .ok (.lconst 0, 1) := by decide +kernel
theorem dX8_noTray_3 : decode cX8_noTray 3 = .ok (.ldc2_w 350, 3) := by decide +kernel
theorem dX8_noTray_6 : decode cX8_noTray 6 = .ok (.invokestatic 154, 3) := by decide +kernel
theorem dX8_noTray_9 : decode cX8_noTray 9 = .ok (.ifCond .ne 8, 3) := by decide +kernel
theorem dX8_noTray_12 : decode cX8_noTray 12 = .ok (.bipush (-2), 2) := by decide +kernel
theorem dX8_noTray_14 : decode cX8_noTray 14 = .ok (.goto 19, 3) := by decide +kernel
theorem dX8_noTray_17 : decode cX8_noTray 17 = .ok (.aload_n 0, 1) := by decide +kernel
theorem dX8_noTray_18 : decode cX8_noTray 18 = .ok (.getfield 78, 3) := by decide +kernel
theorem dX8_noTray_21 : decode cX8_noTray 21 = .ok (.iload_n 1, 1) := by decide +kernel
theorem dX8_noTray_22 : decode cX8_noTray 22 = .ok (.iaload, 1) := by decide +kernel
theorem dX8_noTray_23 : decode cX8_noTray 23 = .ok (.iconst (-1), 1) := by decide +kernel
theorem dX8_noTray_24 : decode cX8_noTray 24 = .ok (.if_icmp .ne 8, 3) := by decide +kernel
theorem dX8_noTray_27 : decode cX8_noTray 27 = .ok (.bipush (-6), 2) := by decide +kernel
theorem dX8_noTray_29 : decode cX8_noTray 29 = .ok (.goto 4, 3) := by decide +kernel
theorem dX8_noTray_32 : decode cX8_noTray 32 = .ok (.iconst 0, 1) := by decide +kernel
theorem dX8_noTray_33 : decode cX8_noTray 33 = .ok (.ireturn, 1) := by decide +kernel
def f_X8_noTray_33 (w0 : Int32) (s : zS) : Option (Int32 × zS) :=
  some (w0, s)
set_option maxRecDepth 20000 in
theorem b_X8_noTray_33 {X : zX} (hX : zx_ok X cX8_noTray RX8 2) (hT : zx_rt X (some .int) (zR 1 25)) : ∀ (w0 : Int32) (s : zS), zV X (zq X zrI) 2 33 [] [.int w0] s (f_X8_noTray_33 w0 s) := by
  intro w0 s
  unfold f_X8_noTray_33
  exact zv_ireti hX hT dX8_noTray_33
def f_X8_noTray (v1 : Int32) (s : zS) : Option (Int32 × zS) :=
  zbd (f_X8_within (v1.toInt64) (0 : Int64) (3 : Int64) s) fun r1 s2 =>
  if ¬ r1 = 0 then
  ((zr_i s2 97 v1).bind fun x3 =>
  if ¬ x3 = (-1 : Int32) then
  (f_X8_noTray_33 (0 : Int32) s2)
  else
  f_X8_noTray_33 (-6 : Int32) s2)
  else
  f_X8_noTray_33 (-2 : Int32) s2
set_option maxRecDepth 20000 in
theorem c_X8_noTray (Y : zG) (v1 : Int32) (s : zS) : zM Y yX8_noTray cX8_noTray 2 (some .int) (zR 1 25) [.ref (zy_a Y 76), .int v1] s zrI (f_X8_noTray v1 s) := by
  refine zm_start (by decide +kernel) (Nat.le_of_ble_eq_true rfl) ?_
  intro X hY hT hX
  subst hY
  have hX : zx_ok X cX8_noTray RX8 2 := hX
  show zV X (zq X zrI) 2 0 [(0, .ref (zx_ad X 76)), (1, .int v1)] [] s _
  unfold f_X8_noTray
  refine zv_iload_n hX dX8_noTray_0 1 rfl ?_
  refine zv_i2l hX dX8_noTray_1 ?_
  refine zv_lconst (v := (0 : Int64)) hX dX8_noTray_2 zi_l_0 ?_
  refine zv_ldc2 hX wn_X8_350 dX8_noTray_3 ?_
  refine zv_cSI [.long (v1.toInt64), .long (0 : Int64), .long (3 : Int64)] (rest := []) hX hT.2.2.2.2 (c_X8_within (zx_Y X) (v1.toInt64) (0 : Int64) (3 : Int64) s) wv_X8_within wm_X8_154 rfl (Nat.le_of_ble_eq_true rfl) (Nat.le_of_ble_eq_true rfl) rfl (Nat.le_of_ble_eq_true rfl) dX8_noTray_6 (fun r1 s2 => ?_)
  refine zv_if_ne (tgt := 17) hX dX8_noTray_9 rfl ?_ ?_
  · refine zv_aload_n hX dX8_noTray_17 0 rfl ?_
    refine zv_geta hX wf_X8_78 wc_8 zd_76 zj_76_38 c9_8 zr_76_38 (by decide) dX8_noTray_18 ?_
    refine zv_iload_n hX dX8_noTray_21 1 rfl ?_
    refine zv_iald hX dX8_noTray_22 (fun x3 => ?_)
    refine zv_iconst (v := (-1 : Int32)) hX dX8_noTray_23 zi_i_m1 ?_
    refine zv_icmp_ne (tgt := 32) hX dX8_noTray_24 rfl ?_ ?_
    · refine zv_iconst (v := (0 : Int32)) hX dX8_noTray_32 zi_i_0 ?_
      exact zv_sub [] rfl (b_X8_noTray_33 hX hT (0 : Int32) s2)
    · refine zv_bipush (v := (-6 : Int32)) hX dX8_noTray_27 zi_b_m6 ?_
      refine zv_goto (tgt := 33) hX dX8_noTray_29 rfl ?_
      exact zv_sub [] rfl (b_X8_noTray_33 hX hT (-6 : Int32) s2)
  · refine zv_bipush (v := (-2 : Int32)) hX dX8_noTray_12 zi_b_m2 ?_
    refine zv_goto (tgt := 33) hX dX8_noTray_14 rfl ?_
    exact zv_sub [] rfl (b_X8_noTray_33 hX hT (-2 : Int32) s2)
theorem dX8_noAnswers_0 : decode cX8_noAnswers 0 = .ok (.iload_n 1, 1) := by decide +kernel
theorem dX8_noAnswers_1 : decode cX8_noAnswers 1 = .ok (.i2l, 1) := by decide +kernel
theorem dX8_noAnswers_2 : decode cX8_noAnswers 2 = .ok (.lconst 0, 1) := by decide +kernel
theorem dX8_noAnswers_3 : decode cX8_noAnswers 3 = .ok (.ldc2_w 350, 3) := by decide +kernel
theorem dX8_noAnswers_6 : decode cX8_noAnswers 6 = .ok (.invokestatic 154, 3) := by decide +kernel
theorem dX8_noAnswers_9 : decode cX8_noAnswers 9 = .ok (.ifCond .eq 12, 3) := by decide +kernel
theorem dX8_noAnswers_12 : decode cX8_noAnswers 12 = .ok (.aload_n 0, 1) := by decide +kernel
theorem dX8_noAnswers_13 : decode cX8_noAnswers 13 = .ok (.iload_n 2, 1) := by decide +kernel
theorem dX8_noAnswers_14 : decode cX8_noAnswers 14 = .ok (.i2l, 1) := by decide +kernel
theorem dX8_noAnswers_15 : decode cX8_noAnswers 15 = .ok (.invokevirtual 219, 3) := by decide +kernel
theorem dX8_noAnswers_18 : decode cX8_noAnswers 18 = .ok (.ifCond .ne 6, 3) := by decide +kernel
theorem dX8_noAnswers_21 : decode cX8_noAnswers 21 = .ok (.bipush (-2), 2) := by decide +kernel
theorem dX8_noAnswers_23 : decode cX8_noAnswers 23 = .ok (.ireturn, 1) := by decide +kernel
theorem dX8_noAnswers_24 : decode cX8_noAnswers 24 = .ok (.aload_n 0, 1) := by decide +kernel
theorem dX8_noAnswers_25 : decode cX8_noAnswers 25 = .ok (.iload_n 1, 1) := by decide +kernel
theorem dX8_noAnswers_26 : decode cX8_noAnswers 26 = .ok (.invokevirtual 352, 3) := by decide +kernel
theorem dX8_noAnswers_29 : decode cX8_noAnswers 29 = .ok (.istore_n 3, 1) := by decide +kernel
theorem dX8_noAnswers_30 : decode cX8_noAnswers 30 = .ok (.iload_n 3, 1) := by decide +kernel
theorem dX8_noAnswers_31 : decode cX8_noAnswers 31 = .ok (.ifCond .eq 5, 3) := by decide +kernel
theorem dX8_noAnswers_34 : decode cX8_noAnswers 34 = .ok (.iload_n 3, 1) := by decide +kernel
theorem dX8_noAnswers_35 : decode cX8_noAnswers 35 = .ok (.ireturn, 1) := by decide +kernel
theorem dX8_noAnswers_36 : decode cX8_noAnswers 36 = .ok (.aload_n 0, 1) := by decide +kernel
theorem dX8_noAnswers_37 : decode cX8_noAnswers 37 = .ok (.getfield 81, 3) := by decide +kernel
theorem dX8_noAnswers_40 : decode cX8_noAnswers 40 = .ok (.iload_n 1, 1) := by decide +kernel
theorem dX8_noAnswers_41 : decode cX8_noAnswers 41 = .ok (.iaload, 1) := by decide +kernel
theorem dX8_noAnswers_42 : decode cX8_noAnswers 42 = .ok (.aload_n 0, 1) := by decide +kernel
theorem dX8_noAnswers_43 : decode cX8_noAnswers 43 = .ok (.getfield 13, 3) := by decide +kernel
theorem dX8_noAnswers_46 : decode cX8_noAnswers 46 = .ok (.iconst 1, 1) := by decide +kernel
theorem dX8_noAnswers_47 : decode cX8_noAnswers 47 = .ok (.iaload, 1) := by decide +kernel
theorem dX8_noAnswers_48 : decode cX8_noAnswers 48 = .ok (.if_icmp .eq 6, 3) := by decide +kernel
theorem dX8_noAnswers_51 : decode cX8_noAnswers 51 = .ok (.bipush (-4), 2) := by decide +kernel
theorem dX8_noAnswers_53 : decode cX8_noAnswers 53 = .ok (.ireturn, 1) := by decide +kernel
theorem dX8_noAnswers_54 : decode cX8_noAnswers 54 = .ok (.iconst 0, 1) := by decide +kernel
theorem dX8_noAnswers_55 : decode cX8_noAnswers 55 = .ok (.istore 4, 2) := by decide +kernel
theorem dX8_noAnswers_57 : decode cX8_noAnswers 57 = .ok (.iload 4, 2) := by decide +kernel
theorem dX8_noAnswers_59 : decode cX8_noAnswers 59 = .ok (.aload_n 0, 1) := by decide +kernel
theorem dX8_noAnswers_60 : decode cX8_noAnswers 60 = .ok (.getfield 13, 3) := by decide +kernel
theorem dX8_noAnswers_63 : decode cX8_noAnswers 63 = .ok (.iconst 1, 1) := by decide +kernel
theorem dX8_noAnswers_64 : decode cX8_noAnswers 64 = .ok (.iaload, 1) := by decide +kernel
theorem dX8_noAnswers_65 : decode cX8_noAnswers 65 = .ok (.if_icmp .ge 76, 3) := by decide +kernel
theorem dX8_noAnswers_68 : decode cX8_noAnswers 68 = .ok (.aload_n 0, 1) := by decide +kernel
theorem dX8_noAnswers_69 : decode cX8_noAnswers 69 = .ok (.getfield 84, 3) := by decide +kernel
theorem dX8_noAnswers_72 : decode cX8_noAnswers 72 = .ok (.bipush 40, 2) := by decide +kernel
theorem dX8_noAnswers_74 : decode cX8_noAnswers 74 = .ok (.iload_n 1, 1) := by decide +kernel
theorem dX8_noAnswers_75 : decode cX8_noAnswers 75 = .ok (.imul, 1) := by decide +kernel
theorem dX8_noAnswers_76 : decode cX8_noAnswers 76 = .ok (.iload 4, 2) := by decide +kernel
theorem dX8_noAnswers_78 : decode cX8_noAnswers 78 = .ok (.iadd, 1) := by decide +kernel
theorem dX8_noAnswers_79 : decode cX8_noAnswers 79 = .ok (.laload, 1) := by decide +kernel
theorem dX8_noAnswers_80 : decode cX8_noAnswers 80 = .ok (.lstore 5, 2) := by decide +kernel
theorem dX8_noAnswers_82 : decode cX8_noAnswers 82 = .ok (.lload 5, 2) := by decide +kernel
theorem dX8_noAnswers_84 : decode cX8_noAnswers 84 = .ok (.ldc2_w 444, 3) := by decide +kernel
theorem dX8_noAnswers_87 : decode cX8_noAnswers 87 = .ok (.lcmp, 1) := by decide +kernel
theorem dX8_noAnswers_88 : decode cX8_noAnswers 88 = .ok (.ifCond .ne 6, 3) := by decide +kernel
theorem dX8_noAnswers_91 : decode cX8_noAnswers 91 = .ok (.goto 44, 3) := by decide +kernel
theorem dX8_noAnswers_94 : decode cX8_noAnswers 94 = .ok (.aload_n 0, 1) := by decide +kernel
theorem dX8_noAnswers_95 : decode cX8_noAnswers 95 = .ok (.lload 5, 2) := by decide +kernel
theorem dX8_noAnswers_97 : decode cX8_noAnswers 97 = .ok (.invokevirtual 219, 3) := by decide +kernel
theorem dX8_noAnswers_100 : decode cX8_noAnswers 100 = .ok (.ifCond .eq 32, 3) := by decide +kernel
theorem dX8_noAnswers_103 : decode cX8_noAnswers 103 = .ok (.lload 5, 2) := by decide +kernel
theorem dX8_noAnswers_105 : decode cX8_noAnswers 105 = .ok (.iload 4, 2) := by decide +kernel
theorem dX8_noAnswers_107 : decode cX8_noAnswers 107 = .ok (.i2l, 1) := by decide +kernel
theorem dX8_noAnswers_108 : decode cX8_noAnswers 108 = .ok (.lcmp, 1) := by decide +kernel
theorem dX8_noAnswers_109 : decode cX8_noAnswers 109 = .ok (.ifCond .eq 23, 3) := by decide +kernel
theorem dX8_noAnswers_112 : decode cX8_noAnswers 112 = .ok (.aload_n 0, 1) := by decide +kernel
theorem dX8_noAnswers_113 : decode cX8_noAnswers 113 = .ok (.getfield 84, 3) := by decide +kernel
theorem dX8_noAnswers_116 : decode cX8_noAnswers 116 = .ok (.bipush 40, 2) := by decide +kernel
theorem dX8_noAnswers_118 : decode cX8_noAnswers 118 = .ok (.iload_n 1, 1) := by decide +kernel
theorem dX8_noAnswers_119 : decode cX8_noAnswers 119 = .ok (.imul, 1) := by decide +kernel
theorem dX8_noAnswers_120 : decode cX8_noAnswers 120 = .ok (.lload 5, 2) := by decide +kernel
theorem dX8_noAnswers_122 : decode cX8_noAnswers 122 = .ok (.l2i, 1) := by decide +kernel
theorem dX8_noAnswers_123 : decode cX8_noAnswers 123 = .ok (.iadd, 1) := by decide +kernel
theorem dX8_noAnswers_124 : decode cX8_noAnswers 124 = .ok (.laload, 1) := by decide +kernel
theorem dX8_noAnswers_125 : decode cX8_noAnswers 125 = .ok (.iload 4, 2) := by decide +kernel
theorem dX8_noAnswers_127 : decode cX8_noAnswers 127 = .ok (.i2l, 1) := by decide +kernel
theorem dX8_noAnswers_128 : decode cX8_noAnswers 128 = .ok (.lcmp, 1) := by decide +kernel
theorem dX8_noAnswers_129 : decode cX8_noAnswers 129 = .ok (.ifCond .eq 6, 3) := by decide +kernel
theorem dX8_noAnswers_132 : decode cX8_noAnswers 132 = .ok (.bipush (-3), 2) := by decide +kernel
theorem dX8_noAnswers_134 : decode cX8_noAnswers 134 = .ok (.ireturn, 1) := by decide +kernel
theorem dX8_noAnswers_135 : decode cX8_noAnswers 135 = .ok (.iinc 4 1, 3) := by decide +kernel
theorem dX8_noAnswers_138 : decode cX8_noAnswers 138 = .ok (.goto (-81), 3) := by decide +kernel
theorem dX8_noAnswers_141 : decode cX8_noAnswers 141 = .ok (.iconst 0, 1) := by decide +kernel
theorem dX8_noAnswers_142 : decode cX8_noAnswers 142 = .ok (.ireturn, 1) := by decide +kernel
def f_X8_noAnswers_21  (s : zS) : Option (Int32 × zS) :=
  some ((-2 : Int32), s)
set_option maxRecDepth 20000 in
theorem b_X8_noAnswers_21 {X : zX} (hX : zx_ok X cX8_noAnswers RX8 7) (hT : zx_rt X (some .int) (zR 2 47)) : ∀  (s : zS), zV X (zq X zrI) 7 21 [] [] s (f_X8_noAnswers_21  s) := by
  intro  s
  unfold f_X8_noAnswers_21
  refine zv_bipush (v := (-2 : Int32)) hX dX8_noAnswers_21 zi_b_m2 ?_
  exact zv_ireti hX hT dX8_noAnswers_23
def f_X8_noAnswers_132  (s : zS) : Option (Int32 × zS) :=
  some ((-3 : Int32), s)
set_option maxRecDepth 20000 in
theorem b_X8_noAnswers_132 {X : zX} (hX : zx_ok X cX8_noAnswers RX8 7) (hT : zx_rt X (some .int) (zR 2 47)) : ∀  (s : zS), zV X (zq X zrI) 7 132 [] [] s (f_X8_noAnswers_132  s) := by
  intro  s
  unfold f_X8_noAnswers_132
  refine zv_bipush (v := (-3 : Int32)) hX dX8_noAnswers_132 zi_b_m3 ?_
  exact zv_ireti hX hT dX8_noAnswers_134
def f_X8_noAnswers_135 (kb_57 : Int32 → Int32 → zS → Option (Int32 × zS)) (v1 : Int32) (v4 : Int32) (s : zS) : Option (Int32 × zS) :=
  zb (v4 + (1 : Int32)) fun x1 =>
  kb_57 v1 x1 s
set_option maxRecDepth 20000 in
theorem b_X8_noAnswers_135 {X : zX} {kb_57 : Int32 → Int32 → zS → Option (Int32 × zS)} (hX : zx_ok X cX8_noAnswers RX8 7) (hT : zx_rt X (some .int) (zR 2 47)) (hk_57 : ∀ (v1 : Int32) (v4 : Int32) (s : zS), zV X (zq X zrI) 7 57 [(0, .ref (zx_ad X 76)), (1, .int v1), (4, .int v4)] [] s (kb_57 v1 v4 s)) : ∀ (v1 : Int32) (v4 : Int32) (s : zS), zV X (zq X zrI) 7 135 [(0, .ref (zx_ad X 76)), (1, .int v1), (4, .int v4)] [] s (f_X8_noAnswers_135 kb_57 v1 v4 s) := by
  intro v1 v4 s
  unfold f_X8_noAnswers_135
  refine zv_iincB (lw := fun x1 => [(4, .int x1), (0, .ref (zx_ad X 76)), (1, .int v1)]) hX dX8_noAnswers_135 2 rfl zi_i_1 (by decide) (fun _ => rfl) (fun x1 => ?_)
  refine zv_goto (tgt := 57) hX dX8_noAnswers_138 rfl ?_
  exact zv_sub [1, 2, 0] rfl (hk_57 v1 x1 s)
def f_X8_noAnswers_57 : Nat → Int32 → Int32 → zS → Option (Int32 × zS)
  | 0, _, _, _ => none
  | n + 1, v1, v4, s =>
    (zr_i s 77 (1 : Int32)).bind fun x2 =>
    if x2 ≤ v4 then
    (some ((0 : Int32), s))
    else
    (zr_l s 99 (((nI 40) * v1) + v4)).bind fun x3 =>
    if ¬ (lg_cmp x3 (-1 : Int64)) = 0 then
    (zbd (f_X8_isPerson x3 s) fun r4 s5 =>
    if r4 = 0 then
    (f_X8_noAnswers_132 s5)
    else
    if (lg_cmp x3 (v4.toInt64)) = 0 then
    (f_X8_noAnswers_132 s5)
    else
    (zr_l s5 99 (((nI 40) * v1) + (x3.toInt32))).bind fun x6 =>
    if (lg_cmp x6 (v4.toInt64)) = 0 then
    (f_X8_noAnswers_135 (f_X8_noAnswers_57 n) v1 v4 s5)
    else
    f_X8_noAnswers_132 s5)
    else
    f_X8_noAnswers_135 (f_X8_noAnswers_57 n) v1 v4 s
set_option maxRecDepth 20000 in
theorem b_X8_noAnswers_57 {X : zX} (hX : zx_ok X cX8_noAnswers RX8 7) (hT : zx_rt X (some .int) (zR 2 47)) : ∀ (n : Nat) (v1 : Int32) (v4 : Int32) (s : zS), zV X (zq X zrI) 7 57 [(0, .ref (zx_ad X 76)), (1, .int v1), (4, .int v4)] [] s (f_X8_noAnswers_57 n v1 v4 s) := by
  intro n
  induction n with
  | zero => intro v1 v4 s; exact zv_none
  | succ n ih =>
    intro v1 v4 s
    rw [f_X8_noAnswers_57]
    refine zv_iload hX dX8_noAnswers_57 2 rfl ?_
    refine zv_aload_n hX dX8_noAnswers_59 0 rfl ?_
    refine zv_geta hX wf_X8_13 wc_8 zd_76 zj_76_1 c9_8 zr_76_1 (by decide) dX8_noAnswers_60 ?_
    refine zv_iconst (v := (1 : Int32)) hX dX8_noAnswers_63 zi_i_1 ?_
    refine zv_iald hX dX8_noAnswers_64 (fun x2 => ?_)
    refine zv_icmp_ge (tgt := 141) hX dX8_noAnswers_65 rfl ?_ ?_
    · refine zv_iconst (v := (0 : Int32)) hX dX8_noAnswers_141 zi_i_0 ?_
      exact zv_ireti hX hT dX8_noAnswers_142
    · refine zv_aload_n hX dX8_noAnswers_68 0 rfl ?_
      refine zv_geta hX wf_X8_84 wc_8 zd_76 zj_76_40 c9_8 zr_76_40 (by decide) dX8_noAnswers_69 ?_
      refine zv_bipush (v := (nI 40)) hX dX8_noAnswers_72 zi_b_40 ?_
      refine zv_iload_n hX dX8_noAnswers_74 1 rfl ?_
      refine zv_imul hX dX8_noAnswers_75 ?_
      refine zv_iload hX dX8_noAnswers_76 2 rfl ?_
      refine zv_iadd hX dX8_noAnswers_78 ?_
      refine zv_lald hX dX8_noAnswers_79 (fun x3 => ?_)
      refine zv_lstore (lv' := [(5, .long x3), (0, .ref (zx_ad X 76)), (1, .int v1), (4, .int v4)]) hX dX8_noAnswers_80 (by decide) rfl ?_
      refine zv_lload hX dX8_noAnswers_82 0 rfl ?_
      refine zv_ldc2 hX wn_X8_444 dX8_noAnswers_84 ?_
      refine zv_lcmp hX dX8_noAnswers_87 ?_
      refine zv_if_ne (tgt := 94) hX dX8_noAnswers_88 rfl ?_ ?_
      · refine zv_aload_n hX dX8_noAnswers_94 1 rfl ?_
        refine zv_lload hX dX8_noAnswers_95 0 rfl ?_
        refine zv_cVI [.long x3] (rest := []) hX hT.2.2.2.2 (c_X8_isPerson (zx_Y X) x3 s) wv_X8_isPerson c9_8 zd_76 wm_X8_219 rfl (Nat.le_of_ble_eq_true rfl) (Nat.le_of_ble_eq_true rfl) rfl (Nat.le_of_ble_eq_true rfl) dX8_noAnswers_97 (fun r4 s5 => ?_)
        refine zv_if_eq (tgt := 132) hX dX8_noAnswers_100 rfl ?_ ?_
        · exact zv_sub [] rfl (b_X8_noAnswers_132 hX hT  s5)
        · refine zv_lload hX dX8_noAnswers_103 0 rfl ?_
          refine zv_iload hX dX8_noAnswers_105 3 rfl ?_
          refine zv_i2l hX dX8_noAnswers_107 ?_
          refine zv_lcmp hX dX8_noAnswers_108 ?_
          refine zv_if_eq (tgt := 132) hX dX8_noAnswers_109 rfl ?_ ?_
          · exact zv_sub [] rfl (b_X8_noAnswers_132 hX hT  s5)
          · refine zv_aload_n hX dX8_noAnswers_112 1 rfl ?_
            refine zv_geta hX wf_X8_84 wc_8 zd_76 zj_76_40 c9_8 zr_76_40 (by decide) dX8_noAnswers_113 ?_
            refine zv_bipush (v := (nI 40)) hX dX8_noAnswers_116 zi_b_40 ?_
            refine zv_iload_n hX dX8_noAnswers_118 2 rfl ?_
            refine zv_imul hX dX8_noAnswers_119 ?_
            refine zv_lload hX dX8_noAnswers_120 0 rfl ?_
            refine zv_l2i hX dX8_noAnswers_122 ?_
            refine zv_iadd hX dX8_noAnswers_123 ?_
            refine zv_lald hX dX8_noAnswers_124 (fun x6 => ?_)
            refine zv_iload hX dX8_noAnswers_125 3 rfl ?_
            refine zv_i2l hX dX8_noAnswers_127 ?_
            refine zv_lcmp hX dX8_noAnswers_128 ?_
            refine zv_if_eq (tgt := 135) hX dX8_noAnswers_129 rfl ?_ ?_
            · exact zv_sub [1, 2, 3] rfl (b_X8_noAnswers_135 hX hT ih v1 v4 s5)
            · exact zv_sub [] rfl (b_X8_noAnswers_132 hX hT  s5)
      · refine zv_goto (tgt := 135) hX dX8_noAnswers_91 rfl ?_
        exact zv_sub [1, 2, 3] rfl (b_X8_noAnswers_135 hX hT ih v1 v4 s)
def f_X8_noAnswers (v1 : Int32) (v2 : Int32) (s : zS) : Option (Int32 × zS) :=
  zbd (f_X8_within (v1.toInt64) (0 : Int64) (3 : Int64) s) fun r7 s8 =>
  if r7 = 0 then
  (f_X8_noAnswers_21 s8)
  else
  zbd (f_X8_isPerson (v2.toInt64) s8) fun r9 s10 =>
  if ¬ r9 = 0 then
  (zbd (f_X8_noTray v1 s10) fun r11 s12 =>
  if r11 = 0 then
  ((zr_i s12 98 v1).bind fun x13 =>
  (zr_i s12 77 (1 : Int32)).bind fun x14 =>
  if x13 = x14 then
  (f_X8_noAnswers_57 zFU v1 (0 : Int32) s12)
  else
  some ((-4 : Int32), s12))
  else
  some (r11, s12))
  else
  f_X8_noAnswers_21 s10
set_option maxRecDepth 20000 in
theorem c_X8_noAnswers (Y : zG) (v1 : Int32) (v2 : Int32) (s : zS) : zM Y yX8_noAnswers cX8_noAnswers 7 (some .int) (zR 2 47) [.ref (zy_a Y 76), .int v1, .int v2] s zrI (f_X8_noAnswers v1 v2 s) := by
  refine zm_start (by decide +kernel) (Nat.le_of_ble_eq_true rfl) ?_
  intro X hY hT hX
  subst hY
  have hX : zx_ok X cX8_noAnswers RX8 7 := hX
  show zV X (zq X zrI) 7 0 [(0, .ref (zx_ad X 76)), (1, .int v1), (2, .int v2)] [] s _
  unfold f_X8_noAnswers
  refine zv_iload_n hX dX8_noAnswers_0 1 rfl ?_
  refine zv_i2l hX dX8_noAnswers_1 ?_
  refine zv_lconst (v := (0 : Int64)) hX dX8_noAnswers_2 zi_l_0 ?_
  refine zv_ldc2 hX wn_X8_350 dX8_noAnswers_3 ?_
  refine zv_cSI [.long (v1.toInt64), .long (0 : Int64), .long (3 : Int64)] (rest := []) hX hT.2.2.2.2 (c_X8_within (zx_Y X) (v1.toInt64) (0 : Int64) (3 : Int64) s) wv_X8_within wm_X8_154 rfl (Nat.le_of_ble_eq_true rfl) (Nat.le_of_ble_eq_true rfl) rfl (Nat.le_of_ble_eq_true rfl) dX8_noAnswers_6 (fun r7 s8 => ?_)
  refine zv_if_eq (tgt := 21) hX dX8_noAnswers_9 rfl ?_ ?_
  · exact zv_sub [] rfl (b_X8_noAnswers_21 hX hT  s8)
  · refine zv_aload_n hX dX8_noAnswers_12 0 rfl ?_
    refine zv_iload_n hX dX8_noAnswers_13 2 rfl ?_
    refine zv_i2l hX dX8_noAnswers_14 ?_
    refine zv_cVI [.long (v2.toInt64)] (rest := []) hX hT.2.2.2.2 (c_X8_isPerson (zx_Y X) (v2.toInt64) s8) wv_X8_isPerson c9_8 zd_76 wm_X8_219 rfl (Nat.le_of_ble_eq_true rfl) (Nat.le_of_ble_eq_true rfl) rfl (Nat.le_of_ble_eq_true rfl) dX8_noAnswers_15 (fun r9 s10 => ?_)
    refine zv_if_ne (tgt := 24) hX dX8_noAnswers_18 rfl ?_ ?_
    · refine zv_aload_n hX dX8_noAnswers_24 0 rfl ?_
      refine zv_iload_n hX dX8_noAnswers_25 1 rfl ?_
      refine zv_cVI [.int v1] (rest := []) hX hT.2.2.2.2 (c_X8_noTray (zx_Y X) v1 s10) wv_X8_noTray c9_8 zd_76 wm_X8_352 rfl (Nat.le_of_ble_eq_true rfl) (Nat.le_of_ble_eq_true rfl) rfl (Nat.le_of_ble_eq_true rfl) dX8_noAnswers_26 (fun r11 s12 => ?_)
      refine zv_istore_n (lv' := [(3, .int r11), (0, .ref (zx_ad X 76)), (1, .int v1), (2, .int v2)]) hX dX8_noAnswers_29 (by decide) rfl ?_
      refine zv_iload_n hX dX8_noAnswers_30 0 rfl ?_
      refine zv_if_eq (tgt := 36) hX dX8_noAnswers_31 rfl ?_ ?_
      · refine zv_aload_n hX dX8_noAnswers_36 1 rfl ?_
        refine zv_geta hX wf_X8_81 wc_8 zd_76 zj_76_39 c9_8 zr_76_39 (by decide) dX8_noAnswers_37 ?_
        refine zv_iload_n hX dX8_noAnswers_40 2 rfl ?_
        refine zv_iald hX dX8_noAnswers_41 (fun x13 => ?_)
        refine zv_aload_n hX dX8_noAnswers_42 1 rfl ?_
        refine zv_geta hX wf_X8_13 wc_8 zd_76 zj_76_1 c9_8 zr_76_1 (by decide) dX8_noAnswers_43 ?_
        refine zv_iconst (v := (1 : Int32)) hX dX8_noAnswers_46 zi_i_1 ?_
        refine zv_iald hX dX8_noAnswers_47 (fun x14 => ?_)
        refine zv_icmp_eq (tgt := 54) hX dX8_noAnswers_48 rfl ?_ ?_
        · refine zv_iconst (v := (0 : Int32)) hX dX8_noAnswers_54 zi_i_0 ?_
          refine zv_istore (lv' := [(4, .int (0 : Int32)), (3, .int r11), (0, .ref (zx_ad X 76)), (1, .int v1), (2, .int v2)]) hX dX8_noAnswers_55 (by decide) rfl ?_
          exact zv_sub [2, 3, 0] rfl (b_X8_noAnswers_57 hX hT zFU v1 (0 : Int32) s12)
        · refine zv_bipush (v := (-4 : Int32)) hX dX8_noAnswers_51 zi_b_m4 ?_
          exact zv_ireti hX hT dX8_noAnswers_53
      · refine zv_iload_n hX dX8_noAnswers_34 0 rfl ?_
        exact zv_ireti hX hT dX8_noAnswers_35
    · exact zv_sub [] rfl (b_X8_noAnswers_21 hX hT  s10)
theorem dX8_wouldBy_0 : decode cX8_wouldBy 0 = .ok (.aload_n 0, 1) := by decide +kernel
theorem dX8_wouldBy_1 : decode cX8_wouldBy 1 = .ok (.getfield 13, 3) := by decide +kernel
theorem dX8_wouldBy_4 : decode cX8_wouldBy 4 = .ok (.bipush 36, 2) := by decide +kernel
theorem dX8_wouldBy_6 : decode cX8_wouldBy 6 = .ok (.iload_n 1, 1) := by decide +kernel
theorem dX8_wouldBy_7 : decode cX8_wouldBy 7 = .ok (.iadd, 1) := by decide +kernel
theorem dX8_wouldBy_8 : decode cX8_wouldBy 8 = .ok (.iaload, 1) := by decide +kernel
theorem dX8_wouldBy_9 : decode cX8_wouldBy 9 = .ok (.istore 4, 2) := by decide +kernel
theorem dX8_wouldBy_11 : decode cX8_wouldBy 11 = .ok (.iconst 0, 1) := by decide +kernel
theorem dX8_wouldBy_12 : decode cX8_wouldBy 12 = .ok (.istore 5, 2) := by decide +kernel
theorem dX8_wouldBy_14 : decode cX8_wouldBy 14 = .ok (.iconst 0, 1) := by decide +kernel
theorem dX8_wouldBy_15 : decode cX8_wouldBy 15 = .ok (.istore 6, 2) := by decide +kernel
theorem dX8_wouldBy_17 : decode cX8_wouldBy 17 = .ok (.iload 6, 2) := by decide +kernel
theorem dX8_wouldBy_19 : decode cX8_wouldBy 19 = .ok (.bipush 10, 2) := by decide +kernel
theorem dX8_wouldBy_21 : decode cX8_wouldBy 21 = .ok (.if_icmp .ge 49, 3) := by decide +kernel
theorem dX8_wouldBy_24 : decode cX8_wouldBy 24 = .ok (.aload_n 0, 1) := by decide +kernel
theorem dX8_wouldBy_25 : decode cX8_wouldBy 25 = .ok (.getfield 13, 3) := by decide +kernel
theorem dX8_wouldBy_28 : decode cX8_wouldBy 28 = .ok (.bipush 36, 2) := by decide +kernel
theorem dX8_wouldBy_30 : decode cX8_wouldBy 30 = .ok (.iload_n 1, 1) := by decide +kernel
theorem dX8_wouldBy_31 : decode cX8_wouldBy 31 = .ok (.iadd, 1) := by decide +kernel
theorem dX8_wouldBy_32 : decode cX8_wouldBy 32 = .ok (.iload 6, 2) := by decide +kernel
theorem dX8_wouldBy_34 : decode cX8_wouldBy 34 = .ok (.iastore, 1) := by decide +kernel
theorem dX8_wouldBy_35 : decode cX8_wouldBy 35 = .ok (.iload 5, 2) := by decide +kernel
theorem dX8_wouldBy_37 : decode cX8_wouldBy 37 = .ok (.iload_n 3, 1) := by decide +kernel
theorem dX8_wouldBy_38 : decode cX8_wouldBy 38 = .ok (.i2l, 1) := by decide +kernel
theorem dX8_wouldBy_39 : decode cX8_wouldBy 39 = .ok (.iload 6, 2) := by decide +kernel
theorem dX8_wouldBy_41 : decode cX8_wouldBy 41 = .ok (.invokestatic 223, 3) := by decide +kernel
theorem dX8_wouldBy_44 : decode cX8_wouldBy 44 = .ok (.ifCond .eq 16, 3) := by decide +kernel
theorem dX8_wouldBy_47 : decode cX8_wouldBy 47 = .ok (.aload_n 0, 1) := by decide +kernel
theorem dX8_wouldBy_48 : decode cX8_wouldBy 48 = .ok (.iload_n 1, 1) := by decide +kernel
theorem dX8_wouldBy_49 : decode cX8_wouldBy 49 = .ok (.iload_n 2, 1) := by decide +kernel
theorem dX8_wouldBy_50 : decode cX8_wouldBy 50 = .ok (.invokevirtual 271, 3) := by decide +kernel
theorem dX8_wouldBy_53 : decode cX8_wouldBy 53 = .ok (.ifCond .le 7, 3) := by decide +kernel
theorem dX8_wouldBy_56 : decode cX8_wouldBy 56 = .ok (.iconst 1, 1) := by decide +kernel
theorem dX8_wouldBy_57 : decode cX8_wouldBy 57 = .ok (.goto 4, 3) := by decide +kernel
theorem dX8_wouldBy_60 : decode cX8_wouldBy 60 = .ok (.iconst 0, 1) := by decide +kernel
theorem dX8_wouldBy_61 : decode cX8_wouldBy 61 = .ok (.iadd, 1) := by decide +kernel
theorem dX8_wouldBy_62 : decode cX8_wouldBy 62 = .ok (.istore 5, 2) := by decide +kernel
theorem dX8_wouldBy_64 : decode cX8_wouldBy 64 = .ok (.iinc 6 1, 3) := by decide +kernel
theorem dX8_wouldBy_67 : decode cX8_wouldBy 67 = .ok (.goto (-50), 3) := by decide +kernel
theorem dX8_wouldBy_70 : decode cX8_wouldBy 70 = .ok (.aload_n 0, 1) := by decide +kernel
theorem dX8_wouldBy_71 : decode cX8_wouldBy 71 = .ok (.getfield 13, 3) := by decide +kernel
theorem dX8_wouldBy_74 : decode cX8_wouldBy 74 = .ok (.bipush 36, 2) := by decide +kernel
theorem dX8_wouldBy_76 : decode cX8_wouldBy 76 = .ok (.iload_n 1, 1) := by decide +kernel
theorem dX8_wouldBy_77 : decode cX8_wouldBy 77 = .ok (.iadd, 1) := by decide +kernel
theorem dX8_wouldBy_78 : decode cX8_wouldBy 78 = .ok (.iload 4, 2) := by decide +kernel
theorem dX8_wouldBy_80 : decode cX8_wouldBy 80 = .ok (.iastore, 1) := by decide +kernel
theorem dX8_wouldBy_81 : decode cX8_wouldBy 81 = .ok (.iload 5, 2) := by decide +kernel
theorem dX8_wouldBy_83 : decode cX8_wouldBy 83 = .ok (.ireturn, 1) := by decide +kernel
def f_X8_wouldBy_61 (kb_17 : Int32 → Int32 → Int32 → Int32 → Int32 → Int32 → zS → Option (Int32 × zS)) (v1 : Int32) (v2 : Int32) (v3 : Int32) (v4 : Int32) (v6 : Int32) (w0 : Int32) (w1 : Int32) (s : zS) : Option (Int32 × zS) :=
  zb (w1 + w0) fun x1 =>
  zb (v6 + (1 : Int32)) fun x2 =>
  kb_17 v1 v2 v3 v4 x1 x2 s
set_option maxRecDepth 20000 in
theorem b_X8_wouldBy_61 {X : zX} {kb_17 : Int32 → Int32 → Int32 → Int32 → Int32 → Int32 → zS → Option (Int32 × zS)} (hX : zx_ok X cX8_wouldBy RX8 7) (hT : zx_rt X (some .int) (zR 3 70)) (hk_17 : ∀ (v1 : Int32) (v2 : Int32) (v3 : Int32) (v4 : Int32) (v5 : Int32) (v6 : Int32) (s : zS), zV X (zq X zrI) 7 17 [(0, .ref (zx_ad X 76)), (1, .int v1), (2, .int v2), (3, .int v3), (4, .int v4), (5, .int v5), (6, .int v6)] [] s (kb_17 v1 v2 v3 v4 v5 v6 s)) : ∀ (v1 : Int32) (v2 : Int32) (v3 : Int32) (v4 : Int32) (v6 : Int32) (w0 : Int32) (w1 : Int32) (s : zS), zV X (zq X zrI) 7 61 [(0, .ref (zx_ad X 76)), (1, .int v1), (2, .int v2), (3, .int v3), (4, .int v4), (6, .int v6)] [.int w0, .int w1] s (f_X8_wouldBy_61 kb_17 v1 v2 v3 v4 v6 w0 w1 s) := by
  intro v1 v2 v3 v4 v6 w0 w1 s
  unfold f_X8_wouldBy_61
  refine zv_iadd hX dX8_wouldBy_61 ?_
  refine zv_istB (lw := fun x1 => [(5, .int x1), (0, .ref (zx_ad X 76)), (1, .int v1), (2, .int v2), (3, .int v3), (4, .int v4), (6, .int v6)]) hX dX8_wouldBy_62 (by decide) (fun _ => rfl) (fun x1 => ?_)
  refine zv_iincB (lw := fun x2 => [(6, .int x2), (5, .int x1), (0, .ref (zx_ad X 76)), (1, .int v1), (2, .int v2), (3, .int v3), (4, .int v4)]) hX dX8_wouldBy_64 6 rfl zi_i_1 (by decide) (fun _ => rfl) (fun x2 => ?_)
  refine zv_goto (tgt := 17) hX dX8_wouldBy_67 rfl ?_
  exact zv_sub [2, 3, 4, 5, 6, 1, 0] rfl (hk_17 v1 v2 v3 v4 x1 x2 s)
def f_X8_wouldBy_60 (kb_17 : Int32 → Int32 → Int32 → Int32 → Int32 → Int32 → zS → Option (Int32 × zS)) (v1 : Int32) (v2 : Int32) (v3 : Int32) (v4 : Int32) (v6 : Int32) (w0 : Int32) (s : zS) : Option (Int32 × zS) :=
  f_X8_wouldBy_61 kb_17 v1 v2 v3 v4 v6 (0 : Int32) w0 s
set_option maxRecDepth 20000 in
theorem b_X8_wouldBy_60 {X : zX} {kb_17 : Int32 → Int32 → Int32 → Int32 → Int32 → Int32 → zS → Option (Int32 × zS)} (hX : zx_ok X cX8_wouldBy RX8 7) (hT : zx_rt X (some .int) (zR 3 70)) (hk_17 : ∀ (v1 : Int32) (v2 : Int32) (v3 : Int32) (v4 : Int32) (v5 : Int32) (v6 : Int32) (s : zS), zV X (zq X zrI) 7 17 [(0, .ref (zx_ad X 76)), (1, .int v1), (2, .int v2), (3, .int v3), (4, .int v4), (5, .int v5), (6, .int v6)] [] s (kb_17 v1 v2 v3 v4 v5 v6 s)) : ∀ (v1 : Int32) (v2 : Int32) (v3 : Int32) (v4 : Int32) (v6 : Int32) (w0 : Int32) (s : zS), zV X (zq X zrI) 7 60 [(0, .ref (zx_ad X 76)), (1, .int v1), (2, .int v2), (3, .int v3), (4, .int v4), (6, .int v6)] [.int w0] s (f_X8_wouldBy_60 kb_17 v1 v2 v3 v4 v6 w0 s) := by
  intro v1 v2 v3 v4 v6 w0 s
  unfold f_X8_wouldBy_60
  refine zv_iconst (v := (0 : Int32)) hX dX8_wouldBy_60 zi_i_0 ?_
  exact b_X8_wouldBy_61 hX hT hk_17 v1 v2 v3 v4 v6 (0 : Int32) w0 s
def f_X8_wouldBy_17 : Nat → Int32 → Int32 → Int32 → Int32 → Int32 → Int32 → zS → Option (Int32 × zS)
  | 0, _, _, _, _, _, _, _ => none
  | n + 1, v1, v2, v3, v4, v5, v6, s =>
    if (nI 10) ≤ v6 then
    ((zw_i s 77 ((nI 36) + v1) v4).bind fun s3 =>
    some (v5, s3))
    else
    (zw_i s 77 ((nI 36) + v1) v6).bind fun s4 =>
    zbd (f_X8_isIn (v3.toInt64) v6 s4) fun r5 s6 =>
    if r5 = 0 then
    (f_X8_wouldBy_60 (f_X8_wouldBy_17 n) v1 v2 v3 v4 v6 v5 s6)
    else
    zbd (f_X8_likesBy v1 v2 s6) fun r7 s8 =>
    if r7 ≤ 0 then
    (f_X8_wouldBy_60 (f_X8_wouldBy_17 n) v1 v2 v3 v4 v6 v5 s8)
    else
    f_X8_wouldBy_61 (f_X8_wouldBy_17 n) v1 v2 v3 v4 v6 (1 : Int32) v5 s8
set_option maxRecDepth 20000 in
theorem b_X8_wouldBy_17 {X : zX} (hX : zx_ok X cX8_wouldBy RX8 7) (hT : zx_rt X (some .int) (zR 3 70)) : ∀ (n : Nat) (v1 : Int32) (v2 : Int32) (v3 : Int32) (v4 : Int32) (v5 : Int32) (v6 : Int32) (s : zS), zV X (zq X zrI) 7 17 [(0, .ref (zx_ad X 76)), (1, .int v1), (2, .int v2), (3, .int v3), (4, .int v4), (5, .int v5), (6, .int v6)] [] s (f_X8_wouldBy_17 n v1 v2 v3 v4 v5 v6 s) := by
  intro n
  induction n with
  | zero => intro v1 v2 v3 v4 v5 v6 s; exact zv_none
  | succ n ih =>
    intro v1 v2 v3 v4 v5 v6 s
    rw [f_X8_wouldBy_17]
    refine zv_iload hX dX8_wouldBy_17 6 rfl ?_
    refine zv_bipush (v := (nI 10)) hX dX8_wouldBy_19 zi_b_10 ?_
    refine zv_icmp_ge (tgt := 70) hX dX8_wouldBy_21 rfl ?_ ?_
    · refine zv_aload_n hX dX8_wouldBy_70 0 rfl ?_
      refine zv_geta hX wf_X8_13 wc_8 zd_76 zj_76_1 c9_8 zr_76_1 (by decide) dX8_wouldBy_71 ?_
      refine zv_bipush (v := (nI 36)) hX dX8_wouldBy_74 zi_b_36 ?_
      refine zv_iload_n hX dX8_wouldBy_76 1 rfl ?_
      refine zv_iadd hX dX8_wouldBy_77 ?_
      refine zv_iload hX dX8_wouldBy_78 4 rfl ?_
      refine zv_iast hX dX8_wouldBy_80 (fun s3 => ?_)
      refine zv_iload hX dX8_wouldBy_81 5 rfl ?_
      exact zv_ireti hX hT dX8_wouldBy_83
    · refine zv_aload_n hX dX8_wouldBy_24 0 rfl ?_
      refine zv_geta hX wf_X8_13 wc_8 zd_76 zj_76_1 c9_8 zr_76_1 (by decide) dX8_wouldBy_25 ?_
      refine zv_bipush (v := (nI 36)) hX dX8_wouldBy_28 zi_b_36 ?_
      refine zv_iload_n hX dX8_wouldBy_30 1 rfl ?_
      refine zv_iadd hX dX8_wouldBy_31 ?_
      refine zv_iload hX dX8_wouldBy_32 6 rfl ?_
      refine zv_iast hX dX8_wouldBy_34 (fun s4 => ?_)
      refine zv_iload hX dX8_wouldBy_35 5 rfl ?_
      refine zv_iload_n hX dX8_wouldBy_37 3 rfl ?_
      refine zv_i2l hX dX8_wouldBy_38 ?_
      refine zv_iload hX dX8_wouldBy_39 6 rfl ?_
      refine zv_cSI [.long (v3.toInt64), .int v6] (rest := [.int v5]) hX hT.2.2.2.2 (c_X8_isIn (zx_Y X) (v3.toInt64) v6 s4) wv_X8_isIn wm_X8_223 rfl (Nat.le_of_ble_eq_true rfl) (Nat.le_of_ble_eq_true rfl) rfl (Nat.le_of_ble_eq_true rfl) dX8_wouldBy_41 (fun r5 s6 => ?_)
      refine zv_if_eq (tgt := 60) hX dX8_wouldBy_44 rfl ?_ ?_
      · exact zv_sub [0, 1, 2, 3, 4, 6] rfl (b_X8_wouldBy_60 hX hT ih v1 v2 v3 v4 v6 v5 s6)
      · refine zv_aload_n hX dX8_wouldBy_47 0 rfl ?_
        refine zv_iload_n hX dX8_wouldBy_48 1 rfl ?_
        refine zv_iload_n hX dX8_wouldBy_49 2 rfl ?_
        refine zv_cVI [.int v1, .int v2] (rest := [.int v5]) hX hT.2.2.2.2 (c_X8_likesBy (zx_Y X) v1 v2 s6) wv_X8_likesBy c9_8 zd_76 wm_X8_271 rfl (Nat.le_of_ble_eq_true rfl) (Nat.le_of_ble_eq_true rfl) rfl (Nat.le_of_ble_eq_true rfl) dX8_wouldBy_50 (fun r7 s8 => ?_)
        refine zv_if_le (tgt := 60) hX dX8_wouldBy_53 rfl ?_ ?_
        · exact zv_sub [0, 1, 2, 3, 4, 6] rfl (b_X8_wouldBy_60 hX hT ih v1 v2 v3 v4 v6 v5 s8)
        · refine zv_iconst (v := (1 : Int32)) hX dX8_wouldBy_56 zi_i_1 ?_
          refine zv_goto (tgt := 61) hX dX8_wouldBy_57 rfl ?_
          exact zv_sub [0, 1, 2, 3, 4, 6] rfl (b_X8_wouldBy_61 hX hT ih v1 v2 v3 v4 v6 (1 : Int32) v5 s8)
def f_X8_wouldBy (v1 : Int32) (v2 : Int32) (v3 : Int32) (s : zS) : Option (Int32 × zS) :=
  (zr_i s 77 ((nI 36) + v1)).bind fun x9 =>
  f_X8_wouldBy_17 zFU v1 v2 v3 x9 (0 : Int32) (0 : Int32) s
set_option maxRecDepth 20000 in
theorem c_X8_wouldBy (Y : zG) (v1 : Int32) (v2 : Int32) (v3 : Int32) (s : zS) : zM Y yX8_wouldBy cX8_wouldBy 7 (some .int) (zR 3 70) [.ref (zy_a Y 76), .int v1, .int v2, .int v3] s zrI (f_X8_wouldBy v1 v2 v3 s) := by
  refine zm_start (by decide +kernel) (Nat.le_of_ble_eq_true rfl) ?_
  intro X hY hT hX
  subst hY
  have hX : zx_ok X cX8_wouldBy RX8 7 := hX
  show zV X (zq X zrI) 7 0 [(0, .ref (zx_ad X 76)), (1, .int v1), (2, .int v2), (3, .int v3)] [] s _
  unfold f_X8_wouldBy
  refine zv_aload_n hX dX8_wouldBy_0 0 rfl ?_
  refine zv_geta hX wf_X8_13 wc_8 zd_76 zj_76_1 c9_8 zr_76_1 (by decide) dX8_wouldBy_1 ?_
  refine zv_bipush (v := (nI 36)) hX dX8_wouldBy_4 zi_b_36 ?_
  refine zv_iload_n hX dX8_wouldBy_6 1 rfl ?_
  refine zv_iadd hX dX8_wouldBy_7 ?_
  refine zv_iald hX dX8_wouldBy_8 (fun x9 => ?_)
  refine zv_istore (lv' := [(4, .int x9), (0, .ref (zx_ad X 76)), (1, .int v1), (2, .int v2), (3, .int v3)]) hX dX8_wouldBy_9 (by decide) rfl ?_
  refine zv_iconst (v := (0 : Int32)) hX dX8_wouldBy_11 zi_i_0 ?_
  refine zv_istore (lv' := [(5, .int (0 : Int32)), (4, .int x9), (0, .ref (zx_ad X 76)), (1, .int v1), (2, .int v2), (3, .int v3)]) hX dX8_wouldBy_12 (by decide) rfl ?_
  refine zv_iconst (v := (0 : Int32)) hX dX8_wouldBy_14 zi_i_0 ?_
  refine zv_istore (lv' := [(6, .int (0 : Int32)), (5, .int (0 : Int32)), (4, .int x9), (0, .ref (zx_ad X 76)), (1, .int v1), (2, .int v2), (3, .int v3)]) hX dX8_wouldBy_15 (by decide) rfl ?_
  exact zv_sub [3, 4, 5, 6, 2, 1, 0] rfl (b_X8_wouldBy_17 hX hT zFU v1 v2 v3 x9 (0 : Int32) (0 : Int32) s)
theorem dX8_ask_0 : decode cX8_ask 0 = .ok (.aload_n 0, 1) := by decide +kernel
theorem dX8_ask_1 : decode cX8_ask 1 = .ok (.iconst 0, 1) := by decide +kernel
theorem dX8_ask_2 : decode cX8_ask 2 = .ok (.putfield 1, 3) := by decide +kernel
theorem dX8_ask_5 : decode cX8_ask 5 = .ok (.aload_n 0, 1) := by decide +kernel
theorem dX8_ask_6 : decode cX8_ask 6 = .ok (.iload_n 1, 1) := by decide +kernel
theorem dX8_ask_7 : decode cX8_ask 7 = .ok (.iload_n 2, 1) := by decide +kernel
theorem dX8_ask_8 : decode cX8_ask 8 = .ok (.invokevirtual 446, 3) := by decide +kernel
theorem dX8_ask_11 : decode cX8_ask 11 = .ok (.istore_n 3, 1) := by decide +kernel
theorem dX8_ask_12 : decode cX8_ask 12 = .ok (.iload_n 3, 1) := by decide +kernel
theorem dX8_ask_13 : decode cX8_ask 13 = .ok (.ifCond .eq 5, 3) := by decide +kernel
theorem dX8_ask_16 : decode cX8_ask 16 = .ok (.iload_n 3, 1) := by decide +kernel
theorem dX8_ask_17 : decode cX8_ask 17 = .ok (.ireturn, 1) := by decide +kernel
theorem dX8_ask_18 : decode cX8_ask 18 = .ok (.aload_n 0, 1) := by decide +kernel
theorem dX8_ask_19 : decode cX8_ask 19 = .ok (.iload_n 1, 1) := by decide +kernel
theorem dX8_ask_20 : decode cX8_ask 20 = .ok (.iload_n 2, 1) := by decide +kernel
theorem dX8_ask_21 : decode cX8_ask 21 = .ok (.invokevirtual 449, 3) := by decide +kernel
theorem dX8_ask_24 : decode cX8_ask 24 = .ok (.istore 4, 2) := by decide +kernel
theorem dX8_ask_26 : decode cX8_ask 26 = .ok (.iconst (-1), 1) := by decide +kernel
theorem dX8_ask_27 : decode cX8_ask 27 = .ok (.istore 5, 2) := by decide +kernel
theorem dX8_ask_29 : decode cX8_ask 29 = .ok (.iconst (-1), 1) := by decide +kernel
theorem dX8_ask_30 : decode cX8_ask 30 = .ok (.istore 6, 2) := by decide +kernel
theorem dX8_ask_32 : decode cX8_ask 32 = .ok (.iconst 0, 1) := by decide +kernel
theorem dX8_ask_33 : decode cX8_ask 33 = .ok (.istore 7, 2) := by decide +kernel
theorem dX8_ask_35 : decode cX8_ask 35 = .ok (.iload 7, 2) := by decide +kernel
theorem dX8_ask_37 : decode cX8_ask 37 = .ok (.aload_n 0, 1) := by decide +kernel
theorem dX8_ask_38 : decode cX8_ask 38 = .ok (.getfield 13, 3) := by decide +kernel
theorem dX8_ask_41 : decode cX8_ask 41 = .ok (.iconst 1, 1) := by decide +kernel
theorem dX8_ask_42 : decode cX8_ask 42 = .ok (.iaload, 1) := by decide +kernel
theorem dX8_ask_43 : decode cX8_ask 43 = .ok (.if_icmp .ge 80, 3) := by decide +kernel
theorem dX8_ask_46 : decode cX8_ask 46 = .ok (.iload 4, 2) := by decide +kernel
theorem dX8_ask_48 : decode cX8_ask 48 = .ok (.ifCond .eq 75, 3) := by decide +kernel
theorem dX8_ask_51 : decode cX8_ask 51 = .ok (.iload 7, 2) := by decide +kernel
theorem dX8_ask_53 : decode cX8_ask 53 = .ok (.iload_n 2, 1) := by decide +kernel
theorem dX8_ask_54 : decode cX8_ask 54 = .ok (.if_icmp .ne 6, 3) := by decide +kernel
theorem dX8_ask_57 : decode cX8_ask 57 = .ok (.goto 60, 3) := by decide +kernel
theorem dX8_ask_60 : decode cX8_ask 60 = .ok (.aload_n 0, 1) := by decide +kernel
theorem dX8_ask_61 : decode cX8_ask 61 = .ok (.iload_n 2, 1) := by decide +kernel
theorem dX8_ask_62 : decode cX8_ask 62 = .ok (.iload 7, 2) := by decide +kernel
theorem dX8_ask_64 : decode cX8_ask 64 = .ok (.iload 4, 2) := by decide +kernel
theorem dX8_ask_66 : decode cX8_ask 66 = .ok (.invokevirtual 452, 3) := by decide +kernel
theorem dX8_ask_69 : decode cX8_ask 69 = .ok (.istore 8, 2) := by decide +kernel
theorem dX8_ask_71 : decode cX8_ask 71 = .ok (.iload 8, 2) := by decide +kernel
theorem dX8_ask_73 : decode cX8_ask 73 = .ok (.iload 4, 2) := by decide +kernel
theorem dX8_ask_75 : decode cX8_ask 75 = .ok (.invokestatic 233, 3) := by decide +kernel
theorem dX8_ask_78 : decode cX8_ask 78 = .ok (.iload 8, 2) := by decide +kernel
theorem dX8_ask_80 : decode cX8_ask 80 = .ok (.isub, 1) := by decide +kernel
theorem dX8_ask_81 : decode cX8_ask 81 = .ok (.if_icmp .ge 8, 3) := by decide +kernel
theorem dX8_ask_84 : decode cX8_ask 84 = .ok (.iload 8, 2) := by decide +kernel
theorem dX8_ask_86 : decode cX8_ask 86 = .ok (.goto 11, 3) := by decide +kernel
theorem dX8_ask_89 : decode cX8_ask 89 = .ok (.iload 4, 2) := by decide +kernel
theorem dX8_ask_91 : decode cX8_ask 91 = .ok (.invokestatic 233, 3) := by decide +kernel
theorem dX8_ask_94 : decode cX8_ask 94 = .ok (.iload 8, 2) := by decide +kernel
theorem dX8_ask_96 : decode cX8_ask 96 = .ok (.isub, 1) := by decide +kernel
theorem dX8_ask_97 : decode cX8_ask 97 = .ok (.istore 8, 2) := by decide +kernel
theorem dX8_ask_99 : decode cX8_ask 99 = .ok (.iload 8, 2) := by decide +kernel
theorem dX8_ask_101 : decode cX8_ask 101 = .ok (.iload 6, 2) := by decide +kernel
theorem dX8_ask_103 : decode cX8_ask 103 = .ok (.if_icmp .gt 6, 3) := by decide +kernel
theorem dX8_ask_106 : decode cX8_ask 106 = .ok (.goto 11, 3) := by decide +kernel
theorem dX8_ask_109 : decode cX8_ask 109 = .ok (.iload 7, 2) := by decide +kernel
theorem dX8_ask_111 : decode cX8_ask 111 = .ok (.istore 5, 2) := by decide +kernel
theorem dX8_ask_113 : decode cX8_ask 113 = .ok (.iload 8, 2) := by decide +kernel
theorem dX8_ask_115 : decode cX8_ask 115 = .ok (.istore 6, 2) := by decide +kernel
theorem dX8_ask_117 : decode cX8_ask 117 = .ok (.iinc 7 1, 3) := by decide +kernel
theorem dX8_ask_120 : decode cX8_ask 120 = .ok (.goto (-85), 3) := by decide +kernel
theorem dX8_ask_123 : decode cX8_ask 123 = .ok (.iload 5, 2) := by decide +kernel
theorem dX8_ask_125 : decode cX8_ask 125 = .ok (.ireturn, 1) := by decide +kernel
def f_X8_ask_123 (v5 : Int32) (s : zS) : Option (Int32 × zS) :=
  some (v5, s)
set_option maxRecDepth 20000 in
theorem b_X8_ask_123 {X : zX} (hX : zx_ok X cX8_ask RX8 9) (hT : zx_rt X (some .int) (zR 71 1760)) : ∀ (v5 : Int32) (s : zS), zV X (zq X zrI) 9 123 [(5, .int v5)] [] s (f_X8_ask_123 v5 s) := by
  intro v5 s
  unfold f_X8_ask_123
  refine zv_iload hX dX8_ask_123 0 rfl ?_
  exact zv_ireti hX hT dX8_ask_125
def f_X8_ask_117 (kb_35 : Int32 → Int32 → Int32 → Int32 → Int32 → zS → Option (Int32 × zS)) (v2 : Int32) (v4 : Int32) (v5 : Int32) (v6 : Int32) (v7 : Int32) (s : zS) : Option (Int32 × zS) :=
  zb (v7 + (1 : Int32)) fun x1 =>
  kb_35 v2 v4 v5 v6 x1 s
set_option maxRecDepth 20000 in
theorem b_X8_ask_117 {X : zX} {kb_35 : Int32 → Int32 → Int32 → Int32 → Int32 → zS → Option (Int32 × zS)} (hX : zx_ok X cX8_ask RX8 9) (hT : zx_rt X (some .int) (zR 71 1760)) (hk_35 : ∀ (v2 : Int32) (v4 : Int32) (v5 : Int32) (v6 : Int32) (v7 : Int32) (s : zS), zV X (zq X zrI) 9 35 [(0, .ref (zx_ad X 76)), (2, .int v2), (4, .int v4), (5, .int v5), (6, .int v6), (7, .int v7)] [] s (kb_35 v2 v4 v5 v6 v7 s)) : ∀ (v2 : Int32) (v4 : Int32) (v5 : Int32) (v6 : Int32) (v7 : Int32) (s : zS), zV X (zq X zrI) 9 117 [(0, .ref (zx_ad X 76)), (2, .int v2), (4, .int v4), (5, .int v5), (6, .int v6), (7, .int v7)] [] s (f_X8_ask_117 kb_35 v2 v4 v5 v6 v7 s) := by
  intro v2 v4 v5 v6 v7 s
  unfold f_X8_ask_117
  refine zv_iincB (lw := fun x1 => [(7, .int x1), (0, .ref (zx_ad X 76)), (2, .int v2), (4, .int v4), (5, .int v5), (6, .int v6)]) hX dX8_ask_117 5 rfl zi_i_1 (by decide) (fun _ => rfl) (fun x1 => ?_)
  refine zv_goto (tgt := 35) hX dX8_ask_120 rfl ?_
  exact zv_sub [1, 2, 3, 4, 5, 0] rfl (hk_35 v2 v4 v5 v6 x1 s)
def f_X8_ask_97 (kb_35 : Int32 → Int32 → Int32 → Int32 → Int32 → zS → Option (Int32 × zS)) (v2 : Int32) (v4 : Int32) (v5 : Int32) (v6 : Int32) (v7 : Int32) (w0 : Int32) (s : zS) : Option (Int32 × zS) :=
  if v6 < w0 then
  (f_X8_ask_117 kb_35 v2 v4 v7 w0 v7 s)
  else
  f_X8_ask_117 kb_35 v2 v4 v5 v6 v7 s
set_option maxRecDepth 20000 in
theorem b_X8_ask_97 {X : zX} {kb_35 : Int32 → Int32 → Int32 → Int32 → Int32 → zS → Option (Int32 × zS)} (hX : zx_ok X cX8_ask RX8 9) (hT : zx_rt X (some .int) (zR 71 1760)) (hk_35 : ∀ (v2 : Int32) (v4 : Int32) (v5 : Int32) (v6 : Int32) (v7 : Int32) (s : zS), zV X (zq X zrI) 9 35 [(0, .ref (zx_ad X 76)), (2, .int v2), (4, .int v4), (5, .int v5), (6, .int v6), (7, .int v7)] [] s (kb_35 v2 v4 v5 v6 v7 s)) : ∀ (v2 : Int32) (v4 : Int32) (v5 : Int32) (v6 : Int32) (v7 : Int32) (w0 : Int32) (s : zS), zV X (zq X zrI) 9 97 [(0, .ref (zx_ad X 76)), (2, .int v2), (4, .int v4), (5, .int v5), (6, .int v6), (7, .int v7)] [.int w0] s (f_X8_ask_97 kb_35 v2 v4 v5 v6 v7 w0 s) := by
  intro v2 v4 v5 v6 v7 w0 s
  unfold f_X8_ask_97
  refine zv_istore (lv' := [(8, .int w0), (0, .ref (zx_ad X 76)), (2, .int v2), (4, .int v4), (5, .int v5), (6, .int v6), (7, .int v7)]) hX dX8_ask_97 (by decide) rfl ?_
  refine zv_iload hX dX8_ask_99 0 rfl ?_
  refine zv_iload hX dX8_ask_101 5 rfl ?_
  refine zv_icmp_gt (tgt := 109) hX dX8_ask_103 rfl ?_ ?_
  · refine zv_iload hX dX8_ask_109 6 rfl ?_
    refine zv_istore (lv' := [(5, .int v7), (8, .int w0), (0, .ref (zx_ad X 76)), (2, .int v2), (4, .int v4), (6, .int v6), (7, .int v7)]) hX dX8_ask_111 (by decide) rfl ?_
    refine zv_iload hX dX8_ask_113 1 rfl ?_
    refine zv_istore (lv' := [(6, .int w0), (5, .int v7), (8, .int w0), (0, .ref (zx_ad X 76)), (2, .int v2), (4, .int v4), (7, .int v7)]) hX dX8_ask_115 (by decide) rfl ?_
    exact zv_sub [3, 4, 5, 1, 0, 6] rfl (b_X8_ask_117 hX hT hk_35 v2 v4 v7 w0 v7 s)
  · refine zv_goto (tgt := 117) hX dX8_ask_106 rfl ?_
    exact zv_sub [1, 2, 3, 4, 5, 6] rfl (b_X8_ask_117 hX hT hk_35 v2 v4 v5 v6 v7 s)
def f_X8_ask_35 : Nat → Int32 → Int32 → Int32 → Int32 → Int32 → zS → Option (Int32 × zS)
  | 0, _, _, _, _, _, _ => none
  | n + 1, v2, v4, v5, v6, v7, s =>
    (zr_i s 77 (1 : Int32)).bind fun x2 =>
    if x2 ≤ v7 then
    (f_X8_ask_123 v5 s)
    else
    if v4 = 0 then
    (f_X8_ask_123 v5 s)
    else
    if ¬ v7 = v2 then
    (zbd (f_X8_wouldBy v2 v7 v4 s) fun r3 s4 =>
    zbd (f_X8_bitsOf v4 s4) fun r5 s6 =>
    if (r5 - r3) ≤ r3 then
    (zbd (f_X8_bitsOf v4 s6) fun r7 s8 =>
    f_X8_ask_97 (f_X8_ask_35 n) v2 v4 v5 v6 v7 (r7 - r3) s8)
    else
    f_X8_ask_97 (f_X8_ask_35 n) v2 v4 v5 v6 v7 r3 s6)
    else
    f_X8_ask_117 (f_X8_ask_35 n) v2 v4 v5 v6 v7 s
set_option maxRecDepth 20000 in
theorem b_X8_ask_35 {X : zX} (hX : zx_ok X cX8_ask RX8 9) (hT : zx_rt X (some .int) (zR 71 1760)) : ∀ (n : Nat) (v2 : Int32) (v4 : Int32) (v5 : Int32) (v6 : Int32) (v7 : Int32) (s : zS), zV X (zq X zrI) 9 35 [(0, .ref (zx_ad X 76)), (2, .int v2), (4, .int v4), (5, .int v5), (6, .int v6), (7, .int v7)] [] s (f_X8_ask_35 n v2 v4 v5 v6 v7 s) := by
  intro n
  induction n with
  | zero => intro v2 v4 v5 v6 v7 s; exact zv_none
  | succ n ih =>
    intro v2 v4 v5 v6 v7 s
    rw [f_X8_ask_35]
    refine zv_iload hX dX8_ask_35 5 rfl ?_
    refine zv_aload_n hX dX8_ask_37 0 rfl ?_
    refine zv_geta hX wf_X8_13 wc_8 zd_76 zj_76_1 c9_8 zr_76_1 (by decide) dX8_ask_38 ?_
    refine zv_iconst (v := (1 : Int32)) hX dX8_ask_41 zi_i_1 ?_
    refine zv_iald hX dX8_ask_42 (fun x2 => ?_)
    refine zv_icmp_ge (tgt := 123) hX dX8_ask_43 rfl ?_ ?_
    · exact zv_sub [3] rfl (b_X8_ask_123 hX hT v5 s)
    · refine zv_iload hX dX8_ask_46 2 rfl ?_
      refine zv_if_eq (tgt := 123) hX dX8_ask_48 rfl ?_ ?_
      · exact zv_sub [3] rfl (b_X8_ask_123 hX hT v5 s)
      · refine zv_iload hX dX8_ask_51 5 rfl ?_
        refine zv_iload_n hX dX8_ask_53 1 rfl ?_
        refine zv_icmp_ne (tgt := 60) hX dX8_ask_54 rfl ?_ ?_
        · refine zv_aload_n hX dX8_ask_60 0 rfl ?_
          refine zv_iload_n hX dX8_ask_61 1 rfl ?_
          refine zv_iload hX dX8_ask_62 5 rfl ?_
          refine zv_iload hX dX8_ask_64 2 rfl ?_
          refine zv_cVI [.int v2, .int v7, .int v4] (rest := []) hX hT.2.2.2.2 (c_X8_wouldBy (zx_Y X) v2 v7 v4 s) wv_X8_wouldBy c9_8 zd_76 wm_X8_452 rfl (Nat.le_of_ble_eq_true rfl) (Nat.le_of_ble_eq_true rfl) rfl (Nat.le_of_ble_eq_true rfl) dX8_ask_66 (fun r3 s4 => ?_)
          refine zv_istore (lv' := [(8, .int r3), (0, .ref (zx_ad X 76)), (2, .int v2), (4, .int v4), (5, .int v5), (6, .int v6), (7, .int v7)]) hX dX8_ask_69 (by decide) rfl ?_
          refine zv_iload hX dX8_ask_71 0 rfl ?_
          refine zv_iload hX dX8_ask_73 3 rfl ?_
          refine zv_cSI [.int v4] (rest := [.int r3]) hX hT.2.2.2.2 (c_X8_bitsOf (zx_Y X) v4 s4) wv_X8_bitsOf wm_X8_233 rfl (Nat.le_of_ble_eq_true rfl) (Nat.le_of_ble_eq_true rfl) rfl (Nat.le_of_ble_eq_true rfl) dX8_ask_75 (fun r5 s6 => ?_)
          refine zv_iload hX dX8_ask_78 0 rfl ?_
          refine zv_isub hX dX8_ask_80 ?_
          refine zv_icmp_ge (tgt := 89) hX dX8_ask_81 rfl ?_ ?_
          · refine zv_iload hX dX8_ask_89 3 rfl ?_
            refine zv_cSI [.int v4] (rest := []) hX hT.2.2.2.2 (c_X8_bitsOf (zx_Y X) v4 s6) wv_X8_bitsOf wm_X8_233 rfl (Nat.le_of_ble_eq_true rfl) (Nat.le_of_ble_eq_true rfl) rfl (Nat.le_of_ble_eq_true rfl) dX8_ask_91 (fun r7 s8 => ?_)
            refine zv_iload hX dX8_ask_94 0 rfl ?_
            refine zv_isub hX dX8_ask_96 ?_
            exact zv_sub [1, 2, 3, 4, 5, 6] rfl (b_X8_ask_97 hX hT ih v2 v4 v5 v6 v7 (r7 - r3) s8)
          · refine zv_iload hX dX8_ask_84 0 rfl ?_
            refine zv_goto (tgt := 97) hX dX8_ask_86 rfl ?_
            exact zv_sub [1, 2, 3, 4, 5, 6] rfl (b_X8_ask_97 hX hT ih v2 v4 v5 v6 v7 r3 s6)
        · refine zv_goto (tgt := 117) hX dX8_ask_57 rfl ?_
          exact b_X8_ask_117 hX hT ih v2 v4 v5 v6 v7 s
def f_X8_ask (v1 : Int32) (v2 : Int32) (s : zS) : Option (Int32 × zS) :=
  zb (zs_i s 76 0 (0 : Int32)) fun s9 =>
  zbd (f_X8_noAnswers v1 v2 s9) fun r10 s11 =>
  if r10 = 0 then
  (zbd (f_X8_marksOf v1 v2 s11) fun r12 s13 =>
  f_X8_ask_35 zFU v2 r12 (-1 : Int32) (-1 : Int32) (0 : Int32) s13)
  else
  some (r10, s11)
set_option maxRecDepth 20000 in
theorem c_X8_ask (Y : zG) (v1 : Int32) (v2 : Int32) (s : zS) : zM Y yX8_ask cX8_ask 9 (some .int) (zR 71 1760) [.ref (zy_a Y 76), .int v1, .int v2] s zrI (f_X8_ask v1 v2 s) := by
  refine zm_start (by decide +kernel) (Nat.le_of_ble_eq_true rfl) ?_
  intro X hY hT hX
  subst hY
  have hX : zx_ok X cX8_ask RX8 9 := hX
  show zV X (zq X zrI) 9 0 [(0, .ref (zx_ad X 76)), (1, .int v1), (2, .int v2)] [] s _
  unfold f_X8_ask
  refine zv_aload_n hX dX8_ask_0 0 rfl ?_
  refine zv_iconst (v := (0 : Int32)) hX dX8_ask_1 zi_i_0 ?_
  refine zv_puti hX wf_X8_1 wc_8 wk_8_0 zd_76 zj_76_0 c9_8 zr_76_0 dX8_ask_2 (fun s9 => ?_)
  refine zv_aload_n hX dX8_ask_5 0 rfl ?_
  refine zv_iload_n hX dX8_ask_6 1 rfl ?_
  refine zv_iload_n hX dX8_ask_7 2 rfl ?_
  refine zv_cVI [.int v1, .int v2] (rest := []) hX hT.2.2.2.2 (c_X8_noAnswers (zx_Y X) v1 v2 s9) wv_X8_noAnswers c9_8 zd_76 wm_X8_446 rfl (Nat.le_of_ble_eq_true rfl) (Nat.le_of_ble_eq_true rfl) rfl (Nat.le_of_ble_eq_true rfl) dX8_ask_8 (fun r10 s11 => ?_)
  refine zv_istore_n (lv' := [(3, .int r10), (0, .ref (zx_ad X 76)), (1, .int v1), (2, .int v2)]) hX dX8_ask_11 (by decide) rfl ?_
  refine zv_iload_n hX dX8_ask_12 0 rfl ?_
  refine zv_if_eq (tgt := 18) hX dX8_ask_13 rfl ?_ ?_
  · refine zv_aload_n hX dX8_ask_18 1 rfl ?_
    refine zv_iload_n hX dX8_ask_19 2 rfl ?_
    refine zv_iload_n hX dX8_ask_20 3 rfl ?_
    refine zv_cVI [.int v1, .int v2] (rest := []) hX hT.2.2.2.2 (c_X8_marksOf (zx_Y X) v1 v2 s11) wv_X8_marksOf c9_8 zd_76 wm_X8_449 rfl (Nat.le_of_ble_eq_true rfl) (Nat.le_of_ble_eq_true rfl) rfl (Nat.le_of_ble_eq_true rfl) dX8_ask_21 (fun r12 s13 => ?_)
    refine zv_istore (lv' := [(4, .int r12), (3, .int r10), (0, .ref (zx_ad X 76)), (1, .int v1), (2, .int v2)]) hX dX8_ask_24 (by decide) rfl ?_
    refine zv_iconst (v := (-1 : Int32)) hX dX8_ask_26 zi_i_m1 ?_
    refine zv_istore (lv' := [(5, .int (-1 : Int32)), (4, .int r12), (3, .int r10), (0, .ref (zx_ad X 76)), (1, .int v1), (2, .int v2)]) hX dX8_ask_27 (by decide) rfl ?_
    refine zv_iconst (v := (-1 : Int32)) hX dX8_ask_29 zi_i_m1 ?_
    refine zv_istore (lv' := [(6, .int (-1 : Int32)), (5, .int (-1 : Int32)), (4, .int r12), (3, .int r10), (0, .ref (zx_ad X 76)), (1, .int v1), (2, .int v2)]) hX dX8_ask_30 (by decide) rfl ?_
    refine zv_iconst (v := (0 : Int32)) hX dX8_ask_32 zi_i_0 ?_
    refine zv_istore (lv' := [(7, .int (0 : Int32)), (6, .int (-1 : Int32)), (5, .int (-1 : Int32)), (4, .int r12), (3, .int r10), (0, .ref (zx_ad X 76)), (1, .int v1), (2, .int v2)]) hX dX8_ask_33 (by decide) rfl ?_
    exact zv_sub [5, 7, 3, 2, 1, 0] rfl (b_X8_ask_35 hX hT zFU v2 r12 (-1 : Int32) (-1 : Int32) (0 : Int32) s13)
  · refine zv_iload_n hX dX8_ask_16 0 rfl ?_
    exact zv_ireti hX hT dX8_ask_17
theorem dX8_isSet_0 : decode cX8_isSet 0 = .ok (.iload_n 1, 1) := by decide +kernel
theorem dX8_isSet_1 : decode cX8_isSet 1 = .ok (.ifCond .lt 19, 3) := by decide +kernel
theorem dX8_isSet_4 : decode cX8_isSet 4 = .ok (.iload_n 1, 1) := by decide +kernel
theorem dX8_isSet_5 : decode cX8_isSet 5 = .ok (.iconst 1, 1) := by decide +kernel
theorem dX8_isSet_6 : decode cX8_isSet 6 = .ok (.aload_n 0, 1) := by decide +kernel
theorem dX8_isSet_7 : decode cX8_isSet 7 = .ok (.getfield 13, 3) := by decide +kernel
theorem dX8_isSet_10 : decode cX8_isSet 10 = .ok (.iconst 1, 1) := by decide +kernel
theorem dX8_isSet_11 : decode cX8_isSet 11 = .ok (.iaload, 1) := by decide +kernel
theorem dX8_isSet_12 : decode cX8_isSet 12 = .ok (.ishl, 1) := by decide +kernel
theorem dX8_isSet_13 : decode cX8_isSet 13 = .ok (.if_icmp .ge 7, 3) := by decide +kernel
theorem dX8_isSet_16 : decode cX8_isSet 16 = .ok (.iconst 1, 1) := by decide +kernel
theorem dX8_isSet_17 : decode cX8_isSet 17 = .ok (.goto 4, 3) := by decide +kernel
theorem dX8_isSet_20 : decode cX8_isSet 20 = .ok (.iconst 0, 1) := by decide +kernel
theorem dX8_isSet_21 : decode cX8_isSet 21 = .ok (.ireturn, 1) := by decide +kernel
def f_X8_isSet_21 (w0 : Int32) (s : zS) : Option (Int32 × zS) :=
  if w0 = 0 ∨ w0 = 1 then some (w0, s) else none
set_option maxRecDepth 20000 in
theorem b_X8_isSet_21 {X : zX} (hX : zx_ok X cX8_isSet RX8 2) (hT : zx_rt X (some .boolean) (zR 0 0)) : ∀ (w0 : Int32) (s : zS), zV X (zq X zrI) 2 21 [] [.int w0] s (f_X8_isSet_21 w0 s) := by
  intro w0 s
  unfold f_X8_isSet_21
  exact zv_iretzB hX hT dX8_isSet_21
def f_X8_isSet_20  (s : zS) : Option (Int32 × zS) :=
  f_X8_isSet_21 (0 : Int32) s
set_option maxRecDepth 20000 in
theorem b_X8_isSet_20 {X : zX} (hX : zx_ok X cX8_isSet RX8 2) (hT : zx_rt X (some .boolean) (zR 0 0)) : ∀  (s : zS), zV X (zq X zrI) 2 20 [] [] s (f_X8_isSet_20  s) := by
  intro  s
  unfold f_X8_isSet_20
  refine zv_iconst (v := (0 : Int32)) hX dX8_isSet_20 zi_i_0 ?_
  exact b_X8_isSet_21 hX hT (0 : Int32) s
def f_X8_isSet (v1 : Int32) (s : zS) : Option (Int32 × zS) :=
  if v1 < 0 then
  (f_X8_isSet_20 s)
  else
  (zr_i s 77 (1 : Int32)).bind fun x1 =>
  if (zo_shl (1 : Int32) x1) ≤ v1 then
  (f_X8_isSet_20 s)
  else
  f_X8_isSet_21 (1 : Int32) s
set_option maxRecDepth 20000 in
theorem c_X8_isSet (Y : zG) (v1 : Int32) (s : zS) : zM Y yX8_isSet cX8_isSet 2 (some .boolean) (zR 0 0) [.ref (zy_a Y 76), .int v1] s zrI (f_X8_isSet v1 s) := by
  refine zm_start (by decide +kernel) (Nat.le_of_ble_eq_true rfl) ?_
  intro X hY hT hX
  subst hY
  have hX : zx_ok X cX8_isSet RX8 2 := hX
  show zV X (zq X zrI) 2 0 [(0, .ref (zx_ad X 76)), (1, .int v1)] [] s _
  unfold f_X8_isSet
  refine zv_iload_n hX dX8_isSet_0 1 rfl ?_
  refine zv_if_lt (tgt := 20) hX dX8_isSet_1 rfl ?_ ?_
  · exact zv_sub [] rfl (b_X8_isSet_20 hX hT  s)
  · refine zv_iload_n hX dX8_isSet_4 1 rfl ?_
    refine zv_iconst (v := (1 : Int32)) hX dX8_isSet_5 zi_i_1 ?_
    refine zv_aload_n hX dX8_isSet_6 0 rfl ?_
    refine zv_geta hX wf_X8_13 wc_8 zd_76 zj_76_1 c9_8 zr_76_1 (by decide) dX8_isSet_7 ?_
    refine zv_iconst (v := (1 : Int32)) hX dX8_isSet_10 zi_i_1 ?_
    refine zv_iald hX dX8_isSet_11 (fun x1 => ?_)
    refine zv_ishl hX dX8_isSet_12 ?_
    refine zv_icmp_ge (tgt := 20) hX dX8_isSet_13 rfl ?_ ?_
    · exact zv_sub [] rfl (b_X8_isSet_20 hX hT  s)
    · refine zv_iconst (v := (1 : Int32)) hX dX8_isSet_16 zi_i_1 ?_
      refine zv_goto (tgt := 21) hX dX8_isSet_17 rfl ?_
      exact zv_sub [] rfl (b_X8_isSet_21 hX hT (1 : Int32) s)
