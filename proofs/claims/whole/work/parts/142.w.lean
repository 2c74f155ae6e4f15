theorem dX8_look_0 : decode cX8_look 0 = .ok (.aload_n 0, 1) := by decide +kernel
theorem dX8_look_1 : decode cX8_look 1 = .ok (.iconst 0, 1) := by decide +kernel
theorem dX8_look_2 : decode cX8_look 2 = .ok (.putfield 1, 3) := by decide +kernel
theorem dX8_look_5 : decode cX8_look 5 = .ok (.aload_n 0, 1) := by decide +kernel
theorem dX8_look_6 : decode cX8_look 6 = .ok (.iload_n 1, 1) := by decide +kernel
theorem dX8_look_7 : decode cX8_look 7 = .ok (.invokevirtual 429, 3) := by decide +kernel
theorem dX8_look_10 : decode cX8_look 10 = .ok (.istore_n 2, 1) := by decide +kernel
theorem dX8_look_11 : decode cX8_look 11 = .ok (.iload_n 2, 1) := by decide +kernel
theorem dX8_look_12 : decode cX8_look 12 = .ok (.ifCond .eq 5, 3) := by decide +kernel
theorem dX8_look_15 : decode cX8_look 15 = .ok (.iload_n 2, 1) := by decide +kernel
theorem dX8_look_16 : decode cX8_look 16 = .ok (.ireturn, 1) := by decide +kernel
theorem dX8_look_17 : decode cX8_look 17 = .ok (.aload_n 0, 1) := by decide +kernel
theorem dX8_look_18 : decode cX8_look 18 = .ok (.iload_n 1, 1) := by decide +kernel
theorem dX8_look_19 : decode cX8_look 19 = .ok (.invokevirtual 432, 3) := by decide +kernel
theorem dX8_look_22 : decode cX8_look 22 = .ok (.istore_n 3, 1) := by decide +kernel
theorem dX8_look_23 : decode cX8_look 23 = .ok (.iconst (-1), 1) := by decide +kernel
theorem dX8_look_24 : decode cX8_look 24 = .ok (.istore 4, 2) := by decide +kernel
theorem dX8_look_26 : decode cX8_look 26 = .ok (.iconst (-1), 1) := by decide +kernel
theorem dX8_look_27 : decode cX8_look 27 = .ok (.istore 5, 2) := by decide +kernel
theorem dX8_look_29 : decode cX8_look 29 = .ok (.iconst 0, 1) := by decide +kernel
theorem dX8_look_30 : decode cX8_look 30 = .ok (.istore 6, 2) := by decide +kernel
theorem dX8_look_32 : decode cX8_look 32 = .ok (.iload 6, 2) := by decide +kernel
theorem dX8_look_34 : decode cX8_look 34 = .ok (.bipush 9, 2) := by decide +kernel
theorem dX8_look_36 : decode cX8_look 36 = .ok (.if_icmp .ge 124, 3) := by decide +kernel
theorem dX8_look_39 : decode cX8_look 39 = .ok (.iload_n 3, 1) := by decide +kernel
theorem dX8_look_40 : decode cX8_look 40 = .ok (.ifCond .eq 120, 3) := by decide +kernel
theorem dX8_look_43 : decode cX8_look 43 = .ok (.iconst 0, 1) := by decide +kernel
theorem dX8_look_44 : decode cX8_look 44 = .ok (.istore 7, 2) := by decide +kernel
theorem dX8_look_46 : decode cX8_look 46 = .ok (.iconst 0, 1) := by decide +kernel
theorem dX8_look_47 : decode cX8_look 47 = .ok (.istore 8, 2) := by decide +kernel
theorem dX8_look_49 : decode cX8_look 49 = .ok (.iload 8, 2) := by decide +kernel
theorem dX8_look_51 : decode cX8_look 51 = .ok (.aload_n 0, 1) := by decide +kernel
theorem dX8_look_52 : decode cX8_look 52 = .ok (.getfield 13, 3) := by decide +kernel
theorem dX8_look_55 : decode cX8_look 55 = .ok (.iconst 1, 1) := by decide +kernel
theorem dX8_look_56 : decode cX8_look 56 = .ok (.iaload, 1) := by decide +kernel
theorem dX8_look_57 : decode cX8_look 57 = .ok (.if_icmp .ge 41, 3) := by decide +kernel
theorem dX8_look_60 : decode cX8_look 60 = .ok (.iload 7, 2) := by decide +kernel
theorem dX8_look_62 : decode cX8_look 62 = .ok (.aload_n 0, 1) := by decide +kernel
theorem dX8_look_63 : decode cX8_look 63 = .ok (.getfield 13, 3) := by decide +kernel
theorem dX8_look_66 : decode cX8_look 66 = .ok (.bipush 29, 2) := by decide +kernel
theorem dX8_look_68 : decode cX8_look 68 = .ok (.iload 8, 2) := by decide +kernel
theorem dX8_look_70 : decode cX8_look 70 = .ok (.iadd, 1) := by decide +kernel
theorem dX8_look_71 : decode cX8_look 71 = .ok (.iaload, 1) := by decide +kernel
theorem dX8_look_72 : decode cX8_look 72 = .ok (.i2l, 1) := by decide +kernel
theorem dX8_look_73 : decode cX8_look 73 = .ok (.iload 6, 2) := by decide +kernel
theorem dX8_look_75 : decode cX8_look 75 = .ok (.invokestatic 223, 3) := by decide +kernel
theorem dX8_look_78 : decode cX8_look 78 = .ok (.ifCond .eq 10, 3) := by decide +kernel
theorem dX8_look_81 : decode cX8_look 81 = .ok (.iconst 1, 1) := by decide +kernel
theorem dX8_look_82 : decode cX8_look 82 = .ok (.iload 8, 2) := by decide +kernel
theorem dX8_look_84 : decode cX8_look 84 = .ok (.ishl, 1) := by decide +kernel
theorem dX8_look_85 : decode cX8_look 85 = .ok (.goto 4, 3) := by decide +kernel
theorem dX8_look_88 : decode cX8_look 88 = .ok (.iconst 0, 1) := by decide +kernel
theorem dX8_look_89 : decode cX8_look 89 = .ok (.ior, 1) := by decide +kernel
theorem dX8_look_90 : decode cX8_look 90 = .ok (.istore 7, 2) := by decide +kernel
theorem dX8_look_92 : decode cX8_look 92 = .ok (.iinc 8 1, 3) := by decide +kernel
theorem dX8_look_95 : decode cX8_look 95 = .ok (.goto (-46), 3) := by decide +kernel
theorem dX8_look_98 : decode cX8_look 98 = .ok (.aload_n 0, 1) := by decide +kernel
theorem dX8_look_99 : decode cX8_look 99 = .ok (.iload_n 3, 1) := by decide +kernel
theorem dX8_look_100 : decode cX8_look 100 = .ok (.iload 7, 2) := by decide +kernel
theorem dX8_look_102 : decode cX8_look 102 = .ok (.iand, 1) := by decide +kernel
theorem dX8_look_103 : decode cX8_look 103 = .ok (.invokevirtual 438, 3) := by decide +kernel
theorem dX8_look_106 : decode cX8_look 106 = .ok (.istore 8, 2) := by decide +kernel
theorem dX8_look_108 : decode cX8_look 108 = .ok (.aload_n 0, 1) := by decide +kernel
theorem dX8_look_109 : decode cX8_look 109 = .ok (.iload_n 3, 1) := by decide +kernel
theorem dX8_look_110 : decode cX8_look 110 = .ok (.iload 7, 2) := by decide +kernel
theorem dX8_look_112 : decode cX8_look 112 = .ok (.iconst (-1), 1) := by decide +kernel
theorem dX8_look_113 : decode cX8_look 113 = .ok (.ixor, 1) := by decide +kernel
theorem dX8_look_114 : decode cX8_look 114 = .ok (.iand, 1) := by decide +kernel
theorem dX8_look_115 : decode cX8_look 115 = .ok (.invokevirtual 438, 3) := by decide +kernel
theorem dX8_look_118 : decode cX8_look 118 = .ok (.istore 9, 2) := by decide +kernel
theorem dX8_look_120 : decode cX8_look 120 = .ok (.iload 8, 2) := by decide +kernel
theorem dX8_look_122 : decode cX8_look 122 = .ok (.iload 9, 2) := by decide +kernel
theorem dX8_look_124 : decode cX8_look 124 = .ok (.if_icmp .ge 8, 3) := by decide +kernel
theorem dX8_look_127 : decode cX8_look 127 = .ok (.iload 8, 2) := by decide +kernel
theorem dX8_look_129 : decode cX8_look 129 = .ok (.goto 5, 3) := by decide +kernel
theorem dX8_look_132 : decode cX8_look 132 = .ok (.iload 9, 2) := by decide +kernel
theorem dX8_look_134 : decode cX8_look 134 = .ok (.istore 10, 2) := by decide +kernel
theorem dX8_look_136 : decode cX8_look 136 = .ok (.iload 10, 2) := by decide +kernel
theorem dX8_look_138 : decode cX8_look 138 = .ok (.iload 5, 2) := by decide +kernel
theorem dX8_look_140 : decode cX8_look 140 = .ok (.if_icmp .gt 6, 3) := by decide +kernel
theorem dX8_look_143 : decode cX8_look 143 = .ok (.goto 11, 3) := by decide +kernel
theorem dX8_look_146 : decode cX8_look 146 = .ok (.iload 6, 2) := by decide +kernel
theorem dX8_look_148 : decode cX8_look 148 = .ok (.istore 4, 2) := by decide +kernel
theorem dX8_look_150 : decode cX8_look 150 = .ok (.iload 10, 2) := by decide +kernel
theorem dX8_look_152 : decode cX8_look 152 = .ok (.istore 5, 2) := by decide +kernel
theorem dX8_look_154 : decode cX8_look 154 = .ok (.iinc 6 1, 3) := by decide +kernel
theorem dX8_look_157 : decode cX8_look 157 = .ok (.goto (-125), 3) := by decide +kernel
theorem dX8_look_160 : decode cX8_look 160 = .ok (.iload 4, 2) := by decide +kernel
theorem dX8_look_162 : decode cX8_look 162 = .ok (.ireturn, 1) := by decide +kernel
def f_X8_look_160 (v4 : Int32) (s : zS) : Option (Int32 × zS) :=
  some (v4, s)
set_option maxRecDepth 20000 in
theorem b_X8_look_160 {X : zX} (hX : zx_ok X cX8_look RX8 11) (hT : zx_rt X (some .int) (zR 3 69)) : ∀ (v4 : Int32) (s : zS), zV X (zq X zrI) 11 160 [(4, .int v4)] [] s (f_X8_look_160 v4 s) := by
  intro v4 s
  unfold f_X8_look_160
  refine zv_iload hX dX8_look_160 0 rfl ?_
  exact zv_ireti hX hT dX8_look_162
def f_X8_look_154 (kb_32 : Int32 → Int32 → Int32 → Int32 → zS → Option (Int32 × zS)) (v3 : Int32) (v4 : Int32) (v5 : Int32) (v6 : Int32) (s : zS) : Option (Int32 × zS) :=
  zb (v6 + (1 : Int32)) fun x1 =>
  kb_32 v3 v4 v5 x1 s
set_option maxRecDepth 20000 in
theorem b_X8_look_154 {X : zX} {kb_32 : Int32 → Int32 → Int32 → Int32 → zS → Option (Int32 × zS)} (hX : zx_ok X cX8_look RX8 11) (hT : zx_rt X (some .int) (zR 3 69)) (hk_32 : ∀ (v3 : Int32) (v4 : Int32) (v5 : Int32) (v6 : Int32) (s : zS), zV X (zq X zrI) 11 32 [(0, .ref (zx_ad X 76)), (3, .int v3), (4, .int v4), (5, .int v5), (6, .int v6)] [] s (kb_32 v3 v4 v5 v6 s)) : ∀ (v3 : Int32) (v4 : Int32) (v5 : Int32) (v6 : Int32) (s : zS), zV X (zq X zrI) 11 154 [(0, .ref (zx_ad X 76)), (3, .int v3), (4, .int v4), (5, .int v5), (6, .int v6)] [] s (f_X8_look_154 kb_32 v3 v4 v5 v6 s) := by
  intro v3 v4 v5 v6 s
  unfold f_X8_look_154
  refine zv_iincB (lw := fun x1 => [(6, .int x1), (0, .ref (zx_ad X 76)), (3, .int v3), (4, .int v4), (5, .int v5)]) hX dX8_look_154 4 rfl zi_i_1 (by decide) (fun _ => rfl) (fun x1 => ?_)
  refine zv_goto (tgt := 32) hX dX8_look_157 rfl ?_
  exact zv_sub [1, 2, 3, 4, 0] rfl (hk_32 v3 v4 v5 x1 s)
def f_X8_look_134 (kb_32 : Int32 → Int32 → Int32 → Int32 → zS → Option (Int32 × zS)) (v3 : Int32) (v4 : Int32) (v5 : Int32) (v6 : Int32) (w0 : Int32) (s : zS) : Option (Int32 × zS) :=
  if v5 < w0 then
  (f_X8_look_154 kb_32 v3 v6 w0 v6 s)
  else
  f_X8_look_154 kb_32 v3 v4 v5 v6 s
set_option maxRecDepth 20000 in
theorem b_X8_look_134 {X : zX} {kb_32 : Int32 → Int32 → Int32 → Int32 → zS → Option (Int32 × zS)} (hX : zx_ok X cX8_look RX8 11) (hT : zx_rt X (some .int) (zR 3 69)) (hk_32 : ∀ (v3 : Int32) (v4 : Int32) (v5 : Int32) (v6 : Int32) (s : zS), zV X (zq X zrI) 11 32 [(0, .ref (zx_ad X 76)), (3, .int v3), (4, .int v4), (5, .int v5), (6, .int v6)] [] s (kb_32 v3 v4 v5 v6 s)) : ∀ (v3 : Int32) (v4 : Int32) (v5 : Int32) (v6 : Int32) (w0 : Int32) (s : zS), zV X (zq X zrI) 11 134 [(0, .ref (zx_ad X 76)), (3, .int v3), (4, .int v4), (5, .int v5), (6, .int v6)] [.int w0] s (f_X8_look_134 kb_32 v3 v4 v5 v6 w0 s) := by
  intro v3 v4 v5 v6 w0 s
  unfold f_X8_look_134
  refine zv_istore (lv' := [(10, .int w0), (0, .ref (zx_ad X 76)), (3, .int v3), (4, .int v4), (5, .int v5), (6, .int v6)]) hX dX8_look_134 (by decide) rfl ?_
  refine zv_iload hX dX8_look_136 0 rfl ?_
  refine zv_iload hX dX8_look_138 4 rfl ?_
  refine zv_icmp_gt (tgt := 146) hX dX8_look_140 rfl ?_ ?_
  · refine zv_iload hX dX8_look_146 5 rfl ?_
    refine zv_istore (lv' := [(4, .int v6), (10, .int w0), (0, .ref (zx_ad X 76)), (3, .int v3), (5, .int v5), (6, .int v6)]) hX dX8_look_148 (by decide) rfl ?_
    refine zv_iload hX dX8_look_150 1 rfl ?_
    refine zv_istore (lv' := [(5, .int w0), (4, .int v6), (10, .int w0), (0, .ref (zx_ad X 76)), (3, .int v3), (6, .int v6)]) hX dX8_look_152 (by decide) rfl ?_
    exact zv_sub [3, 4, 1, 0, 5] rfl (b_X8_look_154 hX hT hk_32 v3 v6 w0 v6 s)
  · refine zv_goto (tgt := 154) hX dX8_look_143 rfl ?_
    exact zv_sub [1, 2, 3, 4, 5] rfl (b_X8_look_154 hX hT hk_32 v3 v4 v5 v6 s)
def f_X8_look_89 (kb_32 : Int32 → Int32 → Int32 → Int32 → zS → Option (Int32 × zS)) (kb_49 : Int32 → Int32 → Int32 → Int32 → Int32 → Int32 → zS → Option (Int32 × zS)) (v3 : Int32) (v4 : Int32) (v5 : Int32) (v6 : Int32) (v8 : Int32) (w0 : Int32) (w1 : Int32) (s : zS) : Option (Int32 × zS) :=
  zb (w1 ||| w0) fun x2 =>
  zb (v8 + (1 : Int32)) fun x3 =>
  kb_49 v3 v4 v5 v6 x2 x3 s
set_option maxRecDepth 20000 in
theorem b_X8_look_89 {X : zX} {kb_32 : Int32 → Int32 → Int32 → Int32 → zS → Option (Int32 × zS)} {kb_49 : Int32 → Int32 → Int32 → Int32 → Int32 → Int32 → zS → Option (Int32 × zS)} (hX : zx_ok X cX8_look RX8 11) (hT : zx_rt X (some .int) (zR 3 69)) (hk_32 : ∀ (v3 : Int32) (v4 : Int32) (v5 : Int32) (v6 : Int32) (s : zS), zV X (zq X zrI) 11 32 [(0, .ref (zx_ad X 76)), (3, .int v3), (4, .int v4), (5, .int v5), (6, .int v6)] [] s (kb_32 v3 v4 v5 v6 s)) (hk_49 : ∀ (v3 : Int32) (v4 : Int32) (v5 : Int32) (v6 : Int32) (v7 : Int32) (v8 : Int32) (s : zS), zV X (zq X zrI) 11 49 [(0, .ref (zx_ad X 76)), (3, .int v3), (4, .int v4), (5, .int v5), (6, .int v6), (7, .int v7), (8, .int v8)] [] s (kb_49 v3 v4 v5 v6 v7 v8 s)) : ∀ (v3 : Int32) (v4 : Int32) (v5 : Int32) (v6 : Int32) (v8 : Int32) (w0 : Int32) (w1 : Int32) (s : zS), zV X (zq X zrI) 11 89 [(0, .ref (zx_ad X 76)), (3, .int v3), (4, .int v4), (5, .int v5), (6, .int v6), (8, .int v8)] [.int w0, .int w1] s (f_X8_look_89 kb_32 kb_49 v3 v4 v5 v6 v8 w0 w1 s) := by
  intro v3 v4 v5 v6 v8 w0 w1 s
  unfold f_X8_look_89
  refine zv_ior hX dX8_look_89 ?_
  refine zv_istB (lw := fun x2 => [(7, .int x2), (0, .ref (zx_ad X 76)), (3, .int v3), (4, .int v4), (5, .int v5), (6, .int v6), (8, .int v8)]) hX dX8_look_90 (by decide) (fun _ => rfl) (fun x2 => ?_)
  refine zv_iincB (lw := fun x3 => [(8, .int x3), (7, .int x2), (0, .ref (zx_ad X 76)), (3, .int v3), (4, .int v4), (5, .int v5), (6, .int v6)]) hX dX8_look_92 6 rfl zi_i_1 (by decide) (fun _ => rfl) (fun x3 => ?_)
  refine zv_goto (tgt := 49) hX dX8_look_95 rfl ?_
  exact zv_sub [2, 3, 4, 5, 6, 1, 0] rfl (hk_49 v3 v4 v5 v6 x2 x3 s)
def f_X8_look_49 (kb_32 : Int32 → Int32 → Int32 → Int32 → zS → Option (Int32 × zS)) : Nat → Int32 → Int32 → Int32 → Int32 → Int32 → Int32 → zS → Option (Int32 × zS)
  | 0, _, _, _, _, _, _, _ => none
  | n + 1, v3, v4, v5, v6, v7, v8, s =>
    (zr_i s 77 (1 : Int32)).bind fun x4 =>
    if x4 ≤ v8 then
    (zbd (f_X8_oddsOf (v3 &&& v7) s) fun r5 s6 =>
    zbd (f_X8_oddsOf (v3 &&& (v7 ^^^ (-1 : Int32))) s6) fun r7 s8 =>
    if r7 ≤ r5 then
    (f_X8_look_134 kb_32 v3 v4 v5 v6 r7 s8)
    else
    f_X8_look_134 kb_32 v3 v4 v5 v6 r5 s8)
    else
    (zr_i s 77 ((nI 29) + v8)).bind fun x9 =>
    zbd (f_X8_isIn (x9.toInt64) v6 s) fun r10 s11 =>
    if r10 = 0 then
    (f_X8_look_89 kb_32 (f_X8_look_49 kb_32 n) v3 v4 v5 v6 v8 (0 : Int32) v7 s11)
    else
    f_X8_look_89 kb_32 (f_X8_look_49 kb_32 n) v3 v4 v5 v6 v8 (zo_shl (1 : Int32) v8) v7 s11
set_option maxRecDepth 20000 in
theorem b_X8_look_49 {X : zX} {kb_32 : Int32 → Int32 → Int32 → Int32 → zS → Option (Int32 × zS)} (hX : zx_ok X cX8_look RX8 11) (hT : zx_rt X (some .int) (zR 3 69)) (hk_32 : ∀ (v3 : Int32) (v4 : Int32) (v5 : Int32) (v6 : Int32) (s : zS), zV X (zq X zrI) 11 32 [(0, .ref (zx_ad X 76)), (3, .int v3), (4, .int v4), (5, .int v5), (6, .int v6)] [] s (kb_32 v3 v4 v5 v6 s)) : ∀ (n : Nat) (v3 : Int32) (v4 : Int32) (v5 : Int32) (v6 : Int32) (v7 : Int32) (v8 : Int32) (s : zS), zV X (zq X zrI) 11 49 [(0, .ref (zx_ad X 76)), (3, .int v3), (4, .int v4), (5, .int v5), (6, .int v6), (7, .int v7), (8, .int v8)] [] s (f_X8_look_49 kb_32 n v3 v4 v5 v6 v7 v8 s) := by
  intro n
  induction n with
  | zero => intro v3 v4 v5 v6 v7 v8 s; exact zv_none
  | succ n ih =>
    intro v3 v4 v5 v6 v7 v8 s
    rw [f_X8_look_49]
    refine zv_iload hX dX8_look_49 6 rfl ?_
    refine zv_aload_n hX dX8_look_51 0 rfl ?_
    refine zv_geta hX wf_X8_13 wc_8 zd_76 zj_76_1 c9_8 zr_76_1 (by decide) dX8_look_52 ?_
    refine zv_iconst (v := (1 : Int32)) hX dX8_look_55 zi_i_1 ?_
    refine zv_iald hX dX8_look_56 (fun x4 => ?_)
    refine zv_icmp_ge (tgt := 98) hX dX8_look_57 rfl ?_ ?_
    · refine zv_aload_n hX dX8_look_98 0 rfl ?_
      refine zv_iload_n hX dX8_look_99 1 rfl ?_
      refine zv_iload hX dX8_look_100 5 rfl ?_
      refine zv_iand hX dX8_look_102 ?_
      refine zv_cVI [.int (v3 &&& v7)] (rest := []) hX hT.2.2.2.2 (c_X8_oddsOf (zx_Y X) (v3 &&& v7) s) wv_X8_oddsOf c9_8 zd_76 wm_X8_438 rfl (Nat.le_of_ble_eq_true rfl) (Nat.le_of_ble_eq_true rfl) rfl (Nat.le_of_ble_eq_true rfl) dX8_look_103 (fun r5 s6 => ?_)
      refine zv_istore (lv' := [(8, .int r5), (0, .ref (zx_ad X 76)), (3, .int v3), (4, .int v4), (5, .int v5), (6, .int v6), (7, .int v7)]) hX dX8_look_106 (by decide) rfl ?_
      refine zv_aload_n hX dX8_look_108 1 rfl ?_
      refine zv_iload_n hX dX8_look_109 2 rfl ?_
      refine zv_iload hX dX8_look_110 6 rfl ?_
      refine zv_iconst (v := (-1 : Int32)) hX dX8_look_112 zi_i_m1 ?_
      refine zv_ixor hX dX8_look_113 ?_
      refine zv_iand hX dX8_look_114 ?_
      refine zv_cVI [.int (v3 &&& (v7 ^^^ (-1 : Int32)))] (rest := []) hX hT.2.2.2.2 (c_X8_oddsOf (zx_Y X) (v3 &&& (v7 ^^^ (-1 : Int32))) s6) wv_X8_oddsOf c9_8 zd_76 wm_X8_438 rfl (Nat.le_of_ble_eq_true rfl) (Nat.le_of_ble_eq_true rfl) rfl (Nat.le_of_ble_eq_true rfl) dX8_look_115 (fun r7 s8 => ?_)
      refine zv_istore (lv' := [(9, .int r7), (8, .int r5), (0, .ref (zx_ad X 76)), (3, .int v3), (4, .int v4), (5, .int v5), (6, .int v6), (7, .int v7)]) hX dX8_look_118 (by decide) rfl ?_
      refine zv_iload hX dX8_look_120 1 rfl ?_
      refine zv_iload hX dX8_look_122 0 rfl ?_
      refine zv_icmp_ge (tgt := 132) hX dX8_look_124 rfl ?_ ?_
      · refine zv_iload hX dX8_look_132 0 rfl ?_
        exact zv_sub [2, 3, 4, 5, 6] rfl (b_X8_look_134 hX hT hk_32 v3 v4 v5 v6 r7 s8)
      · refine zv_iload hX dX8_look_127 1 rfl ?_
        refine zv_goto (tgt := 134) hX dX8_look_129 rfl ?_
        exact zv_sub [2, 3, 4, 5, 6] rfl (b_X8_look_134 hX hT hk_32 v3 v4 v5 v6 r5 s8)
    · refine zv_iload hX dX8_look_60 5 rfl ?_
      refine zv_aload_n hX dX8_look_62 0 rfl ?_
      refine zv_geta hX wf_X8_13 wc_8 zd_76 zj_76_1 c9_8 zr_76_1 (by decide) dX8_look_63 ?_
      refine zv_bipush (v := (nI 29)) hX dX8_look_66 zi_b_29 ?_
      refine zv_iload hX dX8_look_68 6 rfl ?_
      refine zv_iadd hX dX8_look_70 ?_
      refine zv_iald hX dX8_look_71 (fun x9 => ?_)
      refine zv_i2l hX dX8_look_72 ?_
      refine zv_iload hX dX8_look_73 4 rfl ?_
      refine zv_cSI [.long (x9.toInt64), .int v6] (rest := [.int v7]) hX hT.2.2.2.2 (c_X8_isIn (zx_Y X) (x9.toInt64) v6 s) wv_X8_isIn wm_X8_223 rfl (Nat.le_of_ble_eq_true rfl) (Nat.le_of_ble_eq_true rfl) rfl (Nat.le_of_ble_eq_true rfl) dX8_look_75 (fun r10 s11 => ?_)
      refine zv_if_eq (tgt := 88) hX dX8_look_78 rfl ?_ ?_
      · refine zv_iconst (v := (0 : Int32)) hX dX8_look_88 zi_i_0 ?_
        exact zv_sub [0, 1, 2, 3, 4, 6] rfl (b_X8_look_89 hX hT hk_32 ih v3 v4 v5 v6 v8 (0 : Int32) v7 s11)
      · refine zv_iconst (v := (1 : Int32)) hX dX8_look_81 zi_i_1 ?_
        refine zv_iload hX dX8_look_82 6 rfl ?_
        refine zv_ishl hX dX8_look_84 ?_
        refine zv_goto (tgt := 89) hX dX8_look_85 rfl ?_
        exact zv_sub [0, 1, 2, 3, 4, 6] rfl (b_X8_look_89 hX hT hk_32 ih v3 v4 v5 v6 v8 (zo_shl (1 : Int32) v8) v7 s11)
def f_X8_look_32 : Nat → Int32 → Int32 → Int32 → Int32 → zS → Option (Int32 × zS)
  | 0, _, _, _, _, _ => none
  | n + 1, v3, v4, v5, v6, s =>
    if (nI 9) ≤ v6 then
    (f_X8_look_160 v4 s)
    else
    if v3 = 0 then
    (f_X8_look_160 v4 s)
    else
    f_X8_look_49 (f_X8_look_32 n) zFU v3 v4 v5 v6 (0 : Int32) (0 : Int32) s
set_option maxRecDepth 20000 in
theorem b_X8_look_32 {X : zX} (hX : zx_ok X cX8_look RX8 11) (hT : zx_rt X (some .int) (zR 3 69)) : ∀ (n : Nat) (v3 : Int32) (v4 : Int32) (v5 : Int32) (v6 : Int32) (s : zS), zV X (zq X zrI) 11 32 [(0, .ref (zx_ad X 76)), (3, .int v3), (4, .int v4), (5, .int v5), (6, .int v6)] [] s (f_X8_look_32 n v3 v4 v5 v6 s) := by
  intro n
  induction n with
  | zero => intro v3 v4 v5 v6 s; exact zv_none
  | succ n ih =>
    intro v3 v4 v5 v6 s
    rw [f_X8_look_32]
    refine zv_iload hX dX8_look_32 4 rfl ?_
    refine zv_bipush (v := (nI 9)) hX dX8_look_34 zi_b_9 ?_
    refine zv_icmp_ge (tgt := 160) hX dX8_look_36 rfl ?_ ?_
    · exact zv_sub [2] rfl (b_X8_look_160 hX hT v4 s)
    · refine zv_iload_n hX dX8_look_39 1 rfl ?_
      refine zv_if_eq (tgt := 160) hX dX8_look_40 rfl ?_ ?_
      · exact zv_sub [2] rfl (b_X8_look_160 hX hT v4 s)
      · refine zv_iconst (v := (0 : Int32)) hX dX8_look_43 zi_i_0 ?_
        refine zv_istore (lv' := [(7, .int (0 : Int32)), (0, .ref (zx_ad X 76)), (3, .int v3), (4, .int v4), (5, .int v5), (6, .int v6)]) hX dX8_look_44 (by decide) rfl ?_
        refine zv_iconst (v := (0 : Int32)) hX dX8_look_46 zi_i_0 ?_
        refine zv_istore (lv' := [(8, .int (0 : Int32)), (7, .int (0 : Int32)), (0, .ref (zx_ad X 76)), (3, .int v3), (4, .int v4), (5, .int v5), (6, .int v6)]) hX dX8_look_47 (by decide) rfl ?_
        exact zv_sub [2, 3, 4, 5, 6, 1, 0] rfl (b_X8_look_49 hX hT ih zFU v3 v4 v5 v6 (0 : Int32) (0 : Int32) s)
def f_X8_look (v1 : Int32) (s : zS) : Option (Int32 × zS) :=
  zb (zs_i s 76 0 (0 : Int32)) fun s12 =>
  zbd (f_X8_noBlot v1 s12) fun r13 s14 =>
  if r13 = 0 then
  (zbd (f_X8_blotSet v1 s14) fun r15 s16 =>
  f_X8_look_32 zFU r15 (-1 : Int32) (-1 : Int32) (0 : Int32) s16)
  else
  some (r13, s14)
set_option maxRecDepth 20000 in
theorem c_X8_look (Y : zG) (v1 : Int32) (s : zS) : zM Y yX8_look cX8_look 11 (some .int) (zR 3 69) [.ref (zy_a Y 76), .int v1] s zrI (f_X8_look v1 s) := by
  refine zm_start (by decide +kernel) (Nat.le_of_ble_eq_true rfl) ?_
  intro X hY hT hX
  subst hY
  have hX : zx_ok X cX8_look RX8 11 := hX
  show zV X (zq X zrI) 11 0 [(0, .ref (zx_ad X 76)), (1, .int v1)] [] s _
  unfold f_X8_look
  refine zv_aload_n hX dX8_look_0 0 rfl ?_
  refine zv_iconst (v := (0 : Int32)) hX dX8_look_1 zi_i_0 ?_
  refine zv_puti hX wf_X8_1 wc_8 wk_8_0 zd_76 zj_76_0 c9_8 zr_76_0 dX8_look_2 (fun s12 => ?_)
  refine zv_aload_n hX dX8_look_5 0 rfl ?_
  refine zv_iload_n hX dX8_look_6 1 rfl ?_
  refine zv_cVI [.int v1] (rest := []) hX hT.2.2.2.2 (c_X8_noBlot (zx_Y X) v1 s12) wv_X8_noBlot c9_8 zd_76 wm_X8_429 rfl (Nat.le_of_ble_eq_true rfl) (Nat.le_of_ble_eq_true rfl) rfl (Nat.le_of_ble_eq_true rfl) dX8_look_7 (fun r13 s14 => ?_)
  refine zv_istore_n (lv' := [(2, .int r13), (0, .ref (zx_ad X 76)), (1, .int v1)]) hX dX8_look_10 (by decide) rfl ?_
  refine zv_iload_n hX dX8_look_11 0 rfl ?_
  refine zv_if_eq (tgt := 17) hX dX8_look_12 rfl ?_ ?_
  · refine zv_aload_n hX dX8_look_17 1 rfl ?_
    refine zv_iload_n hX dX8_look_18 2 rfl ?_
    refine zv_cVI [.int v1] (rest := []) hX hT.2.2.2.2 (c_X8_blotSet (zx_Y X) v1 s14) wv_X8_blotSet c9_8 zd_76 wm_X8_432 rfl (Nat.le_of_ble_eq_true rfl) (Nat.le_of_ble_eq_true rfl) rfl (Nat.le_of_ble_eq_true rfl) dX8_look_19 (fun r15 s16 => ?_)
    refine zv_istore_n (lv' := [(3, .int r15), (2, .int r13), (0, .ref (zx_ad X 76)), (1, .int v1)]) hX dX8_look_22 (by decide) rfl ?_
    refine zv_iconst (v := (-1 : Int32)) hX dX8_look_23 zi_i_m1 ?_
    refine zv_istore (lv' := [(4, .int (-1 : Int32)), (3, .int r15), (2, .int r13), (0, .ref (zx_ad X 76)), (1, .int v1)]) hX dX8_look_24 (by decide) rfl ?_
    refine zv_iconst (v := (-1 : Int32)) hX dX8_look_26 zi_i_m1 ?_
    refine zv_istore (lv' := [(5, .int (-1 : Int32)), (4, .int (-1 : Int32)), (3, .int r15), (2, .int r13), (0, .ref (zx_ad X 76)), (1, .int v1)]) hX dX8_look_27 (by decide) rfl ?_
    refine zv_iconst (v := (0 : Int32)) hX dX8_look_29 zi_i_0 ?_
    refine zv_istore (lv' := [(6, .int (0 : Int32)), (5, .int (-1 : Int32)), (4, .int (-1 : Int32)), (3, .int r15), (2, .int r13), (0, .ref (zx_ad X 76)), (1, .int v1)]) hX dX8_look_30 (by decide) rfl ?_
    exact zv_sub [5, 3, 2, 1, 0] rfl (b_X8_look_32 hX hT zFU r15 (-1 : Int32) (-1 : Int32) (0 : Int32) s16)
  · refine zv_iload_n hX dX8_look_15 0 rfl ?_
    exact zv_ireti hX hT dX8_look_16
theorem dX8_mark_0 : decode cX8_mark 0 = .ok (.aload_n 0, 1) := by decide +kernel
theorem dX8_mark_1 : decode cX8_mark 1 = .ok (.iconst 0, 1) := by decide +kernel
theorem dX8_mark_2 : decode cX8_mark 2 = .ok (.putfield 1, 3) := by decide +kernel
theorem dX8_mark_5 : decode cX8_mark 5 = .ok (.aload_n 0, 1) := by decide +kernel
theorem dX8_mark_6 : decode cX8_mark 6 = .ok (.iload_n 1, 1) := by decide +kernel
theorem dX8_mark_7 : decode cX8_mark 7 = .ok (.i2l, 1) := by decide +kernel
theorem dX8_mark_8 : decode cX8_mark 8 = .ok (.invokevirtual 219, 3) := by decide +kernel
theorem dX8_mark_11 : decode cX8_mark 11 = .ok (.ifCond .eq 15, 3) := by decide +kernel
theorem dX8_mark_14 : decode cX8_mark 14 = .ok (.iload_n 2, 1) := by decide +kernel
theorem dX8_mark_15 : decode cX8_mark 15 = .ok (.i2l, 1) := by decide +kernel
theorem dX8_mark_16 : decode cX8_mark 16 = .ok (.lconst 0, 1) := by decide +kernel
theorem dX8_mark_17 : decode cX8_mark 17 = .ok (.ldc2_w 323, 3) := by decide +kernel
theorem dX8_mark_20 : decode cX8_mark 20 = .ok (.invokestatic 154, 3) := by decide +kernel
theorem dX8_mark_23 : decode cX8_mark 23 = .ok (.ifCond .ne 6, 3) := by decide +kernel
theorem dX8_mark_26 : decode cX8_mark 26 = .ok (.bipush (-11), 2) := by decide +kernel
theorem dX8_mark_28 : decode cX8_mark 28 = .ok (.ireturn, 1) := by decide +kernel
theorem dX8_mark_29 : decode cX8_mark 29 = .ok (.aload_n 0, 1) := by decide +kernel
theorem dX8_mark_30 : decode cX8_mark 30 = .ok (.invokevirtual 307, 3) := by decide +kernel
theorem dX8_mark_33 : decode cX8_mark 33 = .ok (.aload_n 0, 1) := by decide +kernel
theorem dX8_mark_34 : decode cX8_mark 34 = .ok (.getfield 13, 3) := by decide +kernel
theorem dX8_mark_37 : decode cX8_mark 37 = .ok (.bipush 36, 2) := by decide +kernel
theorem dX8_mark_39 : decode cX8_mark 39 = .ok (.iload_n 1, 1) := by decide +kernel
theorem dX8_mark_40 : decode cX8_mark 40 = .ok (.iadd, 1) := by decide +kernel
theorem dX8_mark_41 : decode cX8_mark 41 = .ok (.iload_n 2, 1) := by decide +kernel
theorem dX8_mark_42 : decode cX8_mark 42 = .ok (.iastore, 1) := by decide +kernel
theorem dX8_mark_43 : decode cX8_mark 43 = .ok (.aload_n 0, 1) := by decide +kernel
theorem dX8_mark_44 : decode cX8_mark 44 = .ok (.invokevirtual 313, 3) := by decide +kernel
theorem dX8_mark_47 : decode cX8_mark 47 = .ok (.aload_n 0, 1) := by decide +kernel
theorem dX8_mark_48 : decode cX8_mark 48 = .ok (.getfield 57, 3) := by decide +kernel
theorem dX8_mark_51 : decode cX8_mark 51 = .ok (.bipush 14, 2) := by decide +kernel
theorem dX8_mark_53 : decode cX8_mark 53 = .ok (.iload_n 1, 1) := by decide +kernel
theorem dX8_mark_54 : decode cX8_mark 54 = .ok (.iadd, 1) := by decide +kernel
theorem dX8_mark_55 : decode cX8_mark 55 = .ok (.iaload, 1) := by decide +kernel
theorem dX8_mark_56 : decode cX8_mark 56 = .ok (.ireturn, 1) := by decide +kernel
def f_X8_mark_26  (s : zS) : Option (Int32 × zS) :=
  some ((-11 : Int32), s)
set_option maxRecDepth 20000 in
theorem b_X8_mark_26 {X : zX} (hX : zx_ok X cX8_mark RX8 3) (hT : zx_rt X (some .int) (zR 2 47)) : ∀  (s : zS), zV X (zq X zrI) 3 26 [] [] s (f_X8_mark_26  s) := by
  intro  s
  unfold f_X8_mark_26
  refine zv_bipush (v := (-11 : Int32)) hX dX8_mark_26 zi_b_m11 ?_
  exact zv_ireti hX hT dX8_mark_28
def f_X8_mark (v1 : Int32) (v2 : Int32) (s : zS) : Option (Int32 × zS) :=
  zb (zs_i s 76 0 (0 : Int32)) fun s1 =>
  zbd (f_X8_isPerson (v1.toInt64) s1) fun r2 s3 =>
  if r2 = 0 then
  (f_X8_mark_26 s3)
  else
  zbd (f_X8_within (v2.toInt64) (0 : Int64) (9 : Int64) s3) fun r4 s5 =>
  if ¬ r4 = 0 then
  (zbd (f_X8_keeps s5) fun _ s6 =>
  (zw_i s6 77 ((nI 36) + v1) v2).bind fun s7 =>
  zbd (f_X8_notes s7) fun _ s8 =>
  (zr_i s8 90 ((nI 14) + v1)).bind fun x9 =>
  some (x9, s8))
  else
  f_X8_mark_26 s5
set_option maxRecDepth 20000 in
theorem c_X8_mark (Y : zG) (v1 : Int32) (v2 : Int32) (s : zS) : zM Y yX8_mark cX8_mark 3 (some .int) (zR 2 47) [.ref (zy_a Y 76), .int v1, .int v2] s zrI (f_X8_mark v1 v2 s) := by
  refine zm_start (by decide +kernel) (Nat.le_of_ble_eq_true rfl) ?_
  intro X hY hT hX
  subst hY
  have hX : zx_ok X cX8_mark RX8 3 := hX
  show zV X (zq X zrI) 3 0 [(0, .ref (zx_ad X 76)), (1, .int v1), (2, .int v2)] [] s _
  unfold f_X8_mark
  refine zv_aload_n hX dX8_mark_0 0 rfl ?_
  refine zv_iconst (v := (0 : Int32)) hX dX8_mark_1 zi_i_0 ?_
  refine zv_puti hX wf_X8_1 wc_8 wk_8_0 zd_76 zj_76_0 c9_8 zr_76_0 dX8_mark_2 (fun s1 => ?_)
  refine zv_aload_n hX dX8_mark_5 0 rfl ?_
  refine zv_iload_n hX dX8_mark_6 1 rfl ?_
  refine zv_i2l hX dX8_mark_7 ?_
  refine zv_cVI [.long (v1.toInt64)] (rest := []) hX hT.2.2.2.2 (c_X8_isPerson (zx_Y X) (v1.toInt64) s1) wv_X8_isPerson c9_8 zd_76 wm_X8_219 rfl (Nat.le_of_ble_eq_true rfl) (Nat.le_of_ble_eq_true rfl) rfl (Nat.le_of_ble_eq_true rfl) dX8_mark_8 (fun r2 s3 => ?_)
  refine zv_if_eq (tgt := 26) hX dX8_mark_11 rfl ?_ ?_
  · exact zv_sub [] rfl (b_X8_mark_26 hX hT  s3)
  · refine zv_iload_n hX dX8_mark_14 2 rfl ?_
    refine zv_i2l hX dX8_mark_15 ?_
    refine zv_lconst (v := (0 : Int64)) hX dX8_mark_16 zi_l_0 ?_
    refine zv_ldc2 hX wn_X8_323 dX8_mark_17 ?_
    refine zv_cSI [.long (v2.toInt64), .long (0 : Int64), .long (9 : Int64)] (rest := []) hX hT.2.2.2.2 (c_X8_within (zx_Y X) (v2.toInt64) (0 : Int64) (9 : Int64) s3) wv_X8_within wm_X8_154 rfl (Nat.le_of_ble_eq_true rfl) (Nat.le_of_ble_eq_true rfl) rfl (Nat.le_of_ble_eq_true rfl) dX8_mark_20 (fun r4 s5 => ?_)
    refine zv_if_ne (tgt := 29) hX dX8_mark_23 rfl ?_ ?_
    · refine zv_aload_n hX dX8_mark_29 0 rfl ?_
      refine zv_cVV [] (rest := []) hX hT.2.2.2.2 (c_X8_keeps (zx_Y X) s5) wv_X8_keeps c9_8 zd_76 wm_X8_307 rfl (Nat.le_of_ble_eq_true rfl) (Nat.le_of_ble_eq_true rfl) rfl (Nat.le_of_ble_eq_true rfl) dX8_mark_30 (fun _ s6 => ?_)
      refine zv_aload_n hX dX8_mark_33 0 rfl ?_
      refine zv_geta hX wf_X8_13 wc_8 zd_76 zj_76_1 c9_8 zr_76_1 (by decide) dX8_mark_34 ?_
      refine zv_bipush (v := (nI 36)) hX dX8_mark_37 zi_b_36 ?_
      refine zv_iload_n hX dX8_mark_39 1 rfl ?_
      refine zv_iadd hX dX8_mark_40 ?_
      refine zv_iload_n hX dX8_mark_41 2 rfl ?_
      refine zv_iast hX dX8_mark_42 (fun s7 => ?_)
      refine zv_aload_n hX dX8_mark_43 0 rfl ?_
      refine zv_cVV [] (rest := []) hX hT.2.2.2.2 (c_X8_notes (zx_Y X) s7) wv_X8_notes c9_8 zd_76 wm_X8_313 rfl (Nat.le_of_ble_eq_true rfl) (Nat.le_of_ble_eq_true rfl) rfl (Nat.le_of_ble_eq_true rfl) dX8_mark_44 (fun _ s8 => ?_)
      refine zv_aload_n hX dX8_mark_47 0 rfl ?_
      refine zv_geta hX wf_X8_57 wc_8 zd_76 zj_76_27 c9_8 zr_76_27 (by decide) dX8_mark_48 ?_
      refine zv_bipush (v := (nI 14)) hX dX8_mark_51 zi_b_14 ?_
      refine zv_iload_n hX dX8_mark_53 1 rfl ?_
      refine zv_iadd hX dX8_mark_54 ?_
      refine zv_iald hX dX8_mark_55 (fun x9 => ?_)
      exact zv_ireti hX hT dX8_mark_56
    · exact zv_sub [] rfl (b_X8_mark_26 hX hT  s5)
theorem dX8_marks_0 : decode cX8_marks 0 = .ok (.aload_n 0, 1) := by decide +kernel
theorem dX8_marks_1 : decode cX8_marks 1 = .ok (.iconst 0, 1) := by decide +kernel
theorem dX8_marks_2 : decode cX8_marks 2 = .ok (.putfield 1, 3) := by decide +kernel
theorem dX8_marks_5 : decode cX8_marks 5 = .ok (.aload_n 0, 1) := by decide +kernel
theorem dX8_marks_6 : decode cX8_marks 6 = .ok (.iload_n 1, 1) := by decide +kernel
theorem dX8_marks_7 : decode cX8_marks 7 = .ok (.iload_n 2, 1) := by decide +kernel
theorem dX8_marks_8 : decode cX8_marks 8 = .ok (.invokevirtual 446, 3) := by decide +kernel
theorem dX8_marks_11 : decode cX8_marks 11 = .ok (.istore_n 3, 1) := by decide +kernel
theorem dX8_marks_12 : decode cX8_marks 12 = .ok (.iload_n 3, 1) := by decide +kernel
theorem dX8_marks_13 : decode cX8_marks 13 = .ok (.ifCond .eq 7, 3) := by decide +kernel
theorem dX8_marks_16 : decode cX8_marks 16 = .ok (.iload_n 3, 1) := by decide +kernel
theorem dX8_marks_17 : decode cX8_marks 17 = .ok (.goto 9, 3) := by decide +kernel
theorem dX8_marks_20 : decode cX8_marks 20 = .ok (.aload_n 0, 1) := by decide +kernel
theorem dX8_marks_21 : decode cX8_marks 21 = .ok (.iload_n 1, 1) := by decide +kernel
theorem dX8_marks_22 : decode cX8_marks 22 = .ok (.iload_n 2, 1) := by decide +kernel
theorem dX8_marks_23 : decode cX8_marks 23 = .ok (.invokevirtual 449, 3) := by decide +kernel
theorem dX8_marks_26 : decode cX8_marks 26 = .ok (.ireturn, 1) := by decide +kernel
def f_X8_marks_26 (w0 : Int32) (s : zS) : Option (Int32 × zS) :=
  some (w0, s)
set_option maxRecDepth 20000 in
theorem b_X8_marks_26 {X : zX} (hX : zx_ok X cX8_marks RX8 4) (hT : zx_rt X (some .int) (zR 71 1760)) : ∀ (w0 : Int32) (s : zS), zV X (zq X zrI) 4 26 [] [.int w0] s (f_X8_marks_26 w0 s) := by
  intro w0 s
  unfold f_X8_marks_26
  exact zv_ireti hX hT dX8_marks_26
def f_X8_marks (v1 : Int32) (v2 : Int32) (s : zS) : Option (Int32 × zS) :=
  zb (zs_i s 76 0 (0 : Int32)) fun s1 =>
  zbd (f_X8_noAnswers v1 v2 s1) fun r2 s3 =>
  if r2 = 0 then
  (zbd (f_X8_marksOf v1 v2 s3) fun r4 s5 =>
  f_X8_marks_26 r4 s5)
  else
  f_X8_marks_26 r2 s3
set_option maxRecDepth 20000 in
theorem c_X8_marks (Y : zG) (v1 : Int32) (v2 : Int32) (s : zS) : zM Y yX8_marks cX8_marks 4 (some .int) (zR 71 1760) [.ref (zy_a Y 76), .int v1, .int v2] s zrI (f_X8_marks v1 v2 s) := by
  refine zm_start (by decide +kernel) (Nat.le_of_ble_eq_true rfl) ?_
  intro X hY hT hX
  subst hY
  have hX : zx_ok X cX8_marks RX8 4 := hX
  show zV X (zq X zrI) 4 0 [(0, .ref (zx_ad X 76)), (1, .int v1), (2, .int v2)] [] s _
  unfold f_X8_marks
  refine zv_aload_n hX dX8_marks_0 0 rfl ?_
  refine zv_iconst (v := (0 : Int32)) hX dX8_marks_1 zi_i_0 ?_
  refine zv_puti hX wf_X8_1 wc_8 wk_8_0 zd_76 zj_76_0 c9_8 zr_76_0 dX8_marks_2 (fun s1 => ?_)
  refine zv_aload_n hX dX8_marks_5 0 rfl ?_
  refine zv_iload_n hX dX8_marks_6 1 rfl ?_
  refine zv_iload_n hX dX8_marks_7 2 rfl ?_
  refine zv_cVI [.int v1, .int v2] (rest := []) hX hT.2.2.2.2 (c_X8_noAnswers (zx_Y X) v1 v2 s1) wv_X8_noAnswers c9_8 zd_76 wm_X8_446 rfl (Nat.le_of_ble_eq_true rfl) (Nat.le_of_ble_eq_true rfl) rfl (Nat.le_of_ble_eq_true rfl) dX8_marks_8 (fun r2 s3 => ?_)
  refine zv_istore_n (lv' := [(3, .int r2), (0, .ref (zx_ad X 76)), (1, .int v1), (2, .int v2)]) hX dX8_marks_11 (by decide) rfl ?_
  refine zv_iload_n hX dX8_marks_12 0 rfl ?_
  refine zv_if_eq (tgt := 20) hX dX8_marks_13 rfl ?_ ?_
  · refine zv_aload_n hX dX8_marks_20 1 rfl ?_
    refine zv_iload_n hX dX8_marks_21 2 rfl ?_
    refine zv_iload_n hX dX8_marks_22 3 rfl ?_
    refine zv_cVI [.int v1, .int v2] (rest := []) hX hT.2.2.2.2 (c_X8_marksOf (zx_Y X) v1 v2 s3) wv_X8_marksOf c9_8 zd_76 wm_X8_449 rfl (Nat.le_of_ble_eq_true rfl) (Nat.le_of_ble_eq_true rfl) rfl (Nat.le_of_ble_eq_true rfl) dX8_marks_23 (fun r4 s5 => ?_)
    exact zv_sub [] rfl (b_X8_marks_26 hX hT r4 s5)
  · refine zv_iload_n hX dX8_marks_16 0 rfl ?_
    refine zv_goto (tgt := 26) hX dX8_marks_17 rfl ?_
    exact zv_sub [] rfl (b_X8_marks_26 hX hT r2 s3)
theorem dX8_matchesOf_0 : decode cX8_matchesOf 0 = .ok (.iconst 0, 1) := by decide +kernel
theorem dX8_matchesOf_1 : decode cX8_matchesOf 1 = .ok (.istore_n 2, 1) := by decide +kernel
theorem dX8_matchesOf_2 : decode cX8_matchesOf 2 = .ok (.iconst 0, 1) := by decide +kernel
theorem dX8_matchesOf_3 : decode cX8_matchesOf 3 = .ok (.istore_n 3, 1) := by decide +kernel
theorem dX8_matchesOf_4 : decode cX8_matchesOf 4 = .ok (.iload_n 3, 1) := by decide +kernel
theorem dX8_matchesOf_5 : decode cX8_matchesOf 5 = .ok (.aload_n 0, 1) := by decide +kernel
theorem dX8_matchesOf_6 : decode cX8_matchesOf 6 = .ok (.getfield 13, 3) := by decide +kernel
theorem dX8_matchesOf_9 : decode cX8_matchesOf 9 = .ok (.iconst 1, 1) := by decide +kernel
theorem dX8_matchesOf_10 : decode cX8_matchesOf 10 = .ok (.iaload, 1) := by decide +kernel
theorem dX8_matchesOf_11 : decode cX8_matchesOf 11 = .ok (.if_icmp .ge 28, 3) := by decide +kernel
theorem dX8_matchesOf_14 : decode cX8_matchesOf 14 = .ok (.iload_n 2, 1) := by decide +kernel
theorem dX8_matchesOf_15 : decode cX8_matchesOf 15 = .ok (.aload_n 0, 1) := by decide +kernel
theorem dX8_matchesOf_16 : decode cX8_matchesOf 16 = .ok (.iload_n 1, 1) := by decide +kernel
theorem dX8_matchesOf_17 : decode cX8_matchesOf 17 = .ok (.iload_n 3, 1) := by decide +kernel
theorem dX8_matchesOf_18 : decode cX8_matchesOf 18 = .ok (.invokevirtual 280, 3) := by decide +kernel
theorem dX8_matchesOf_21 : decode cX8_matchesOf 21 = .ok (.ifCond .eq 9, 3) := by decide +kernel
theorem dX8_matchesOf_24 : decode cX8_matchesOf 24 = .ok (.iconst 1, 1) := by decide +kernel
theorem dX8_matchesOf_25 : decode cX8_matchesOf 25 = .ok (.iload_n 3, 1) := by decide +kernel
theorem dX8_matchesOf_26 : decode cX8_matchesOf 26 = .ok (.ishl, 1) := by decide +kernel
theorem dX8_matchesOf_27 : decode cX8_matchesOf 27 = .ok (.goto 4, 3) := by decide +kernel
theorem dX8_matchesOf_30 : decode cX8_matchesOf 30 = .ok (.iconst 0, 1) := by decide +kernel
theorem dX8_matchesOf_31 : decode cX8_matchesOf 31 = .ok (.ior, 1) := by decide +kernel
theorem dX8_matchesOf_32 : decode cX8_matchesOf 32 = .ok (.istore_n 2, 1) := by decide +kernel
theorem dX8_matchesOf_33 : decode cX8_matchesOf 33 = .ok (.iinc 3 1, 3) := by decide +kernel
theorem dX8_matchesOf_36 : decode cX8_matchesOf 36 = .ok (.goto (-32), 3) := by decide +kernel
theorem dX8_matchesOf_39 : decode cX8_matchesOf 39 = .ok (.iload_n 2, 1) := by decide +kernel
theorem dX8_matchesOf_40 : decode cX8_matchesOf 40 = .ok (.ireturn, 1) := by decide +kernel
def f_X8_matchesOf_31 (kb_4 : Int32 → Int32 → Int32 → zS → Option (Int32 × zS)) (v1 : Int32) (v3 : Int32) (w0 : Int32) (w1 : Int32) (s : zS) : Option (Int32 × zS) :=
  zb (w1 ||| w0) fun x1 =>
  zb (v3 + (1 : Int32)) fun x2 =>
  kb_4 v1 x1 x2 s
set_option maxRecDepth 20000 in
theorem b_X8_matchesOf_31 {X : zX} {kb_4 : Int32 → Int32 → Int32 → zS → Option (Int32 × zS)} (hX : zx_ok X cX8_matchesOf RX8 4) (hT : zx_rt X (some .int) (zR 1 22)) (hk_4 : ∀ (v1 : Int32) (v2 : Int32) (v3 : Int32) (s : zS), zV X (zq X zrI) 4 4 [(0, .ref (zx_ad X 76)), (1, .int v1), (2, .int v2), (3, .int v3)] [] s (kb_4 v1 v2 v3 s)) : ∀ (v1 : Int32) (v3 : Int32) (w0 : Int32) (w1 : Int32) (s : zS), zV X (zq X zrI) 4 31 [(0, .ref (zx_ad X 76)), (1, .int v1), (3, .int v3)] [.int w0, .int w1] s (f_X8_matchesOf_31 kb_4 v1 v3 w0 w1 s) := by
  intro v1 v3 w0 w1 s
  unfold f_X8_matchesOf_31
  refine zv_ior hX dX8_matchesOf_31 ?_
  refine zv_istB_n (lw := fun x1 => [(2, .int x1), (0, .ref (zx_ad X 76)), (1, .int v1), (3, .int v3)]) hX dX8_matchesOf_32 (by decide) (fun _ => rfl) (fun x1 => ?_)
  refine zv_iincB (lw := fun x2 => [(3, .int x2), (2, .int x1), (0, .ref (zx_ad X 76)), (1, .int v1)]) hX dX8_matchesOf_33 3 rfl zi_i_1 (by decide) (fun _ => rfl) (fun x2 => ?_)
  refine zv_goto (tgt := 4) hX dX8_matchesOf_36 rfl ?_
  exact zv_sub [2, 3, 1, 0] rfl (hk_4 v1 x1 x2 s)
def f_X8_matchesOf_4 : Nat → Int32 → Int32 → Int32 → zS → Option (Int32 × zS)
  | 0, _, _, _, _ => none
  | n + 1, v1, v2, v3, s =>
    (zr_i s 77 (1 : Int32)).bind fun x3 =>
    if x3 ≤ v3 then
    (some (v2, s))
    else
    zbd (f_X8_areMatch v1 v3 s) fun r4 s5 =>
    if r4 = 0 then
    (f_X8_matchesOf_31 (f_X8_matchesOf_4 n) v1 v3 (0 : Int32) v2 s5)
    else
    f_X8_matchesOf_31 (f_X8_matchesOf_4 n) v1 v3 (zo_shl (1 : Int32) v3) v2 s5
set_option maxRecDepth 20000 in
theorem b_X8_matchesOf_4 {X : zX} (hX : zx_ok X cX8_matchesOf RX8 4) (hT : zx_rt X (some .int) (zR 1 22)) : ∀ (n : Nat) (v1 : Int32) (v2 : Int32) (v3 : Int32) (s : zS), zV X (zq X zrI) 4 4 [(0, .ref (zx_ad X 76)), (1, .int v1), (2, .int v2), (3, .int v3)] [] s (f_X8_matchesOf_4 n v1 v2 v3 s) := by
  intro n
  induction n with
  | zero => intro v1 v2 v3 s; exact zv_none
  | succ n ih =>
    intro v1 v2 v3 s
    rw [f_X8_matchesOf_4]
    refine zv_iload_n hX dX8_matchesOf_4 3 rfl ?_
    refine zv_aload_n hX dX8_matchesOf_5 0 rfl ?_
    refine zv_geta hX wf_X8_13 wc_8 zd_76 zj_76_1 c9_8 zr_76_1 (by decide) dX8_matchesOf_6 ?_
    refine zv_iconst (v := (1 : Int32)) hX dX8_matchesOf_9 zi_i_1 ?_
    refine zv_iald hX dX8_matchesOf_10 (fun x3 => ?_)
    refine zv_icmp_ge (tgt := 39) hX dX8_matchesOf_11 rfl ?_ ?_
    · refine zv_iload_n hX dX8_matchesOf_39 2 rfl ?_
      exact zv_ireti hX hT dX8_matchesOf_40
    · refine zv_iload_n hX dX8_matchesOf_14 2 rfl ?_
      refine zv_aload_n hX dX8_matchesOf_15 0 rfl ?_
      refine zv_iload_n hX dX8_matchesOf_16 1 rfl ?_
      refine zv_iload_n hX dX8_matchesOf_17 3 rfl ?_
      refine zv_cVI [.int v1, .int v3] (rest := [.int v2]) hX hT.2.2.2.2 (c_X8_areMatch (zx_Y X) v1 v3 s) wv_X8_areMatch c9_8 zd_76 wm_X8_280 rfl (Nat.le_of_ble_eq_true rfl) (Nat.le_of_ble_eq_true rfl) rfl (Nat.le_of_ble_eq_true rfl) dX8_matchesOf_18 (fun r4 s5 => ?_)
      refine zv_if_eq (tgt := 30) hX dX8_matchesOf_21 rfl ?_ ?_
      · refine zv_iconst (v := (0 : Int32)) hX dX8_matchesOf_30 zi_i_0 ?_
        exact zv_sub [0, 1, 3] rfl (b_X8_matchesOf_31 hX hT ih v1 v3 (0 : Int32) v2 s5)
      · refine zv_iconst (v := (1 : Int32)) hX dX8_matchesOf_24 zi_i_1 ?_
        refine zv_iload_n hX dX8_matchesOf_25 3 rfl ?_
        refine zv_ishl hX dX8_matchesOf_26 ?_
        refine zv_goto (tgt := 31) hX dX8_matchesOf_27 rfl ?_
        exact zv_sub [0, 1, 3] rfl (b_X8_matchesOf_31 hX hT ih v1 v3 (zo_shl (1 : Int32) v3) v2 s5)
def f_X8_matchesOf (v1 : Int32) (s : zS) : Option (Int32 × zS) :=
  f_X8_matchesOf_4 zFU v1 (0 : Int32) (0 : Int32) s
set_option maxRecDepth 20000 in
theorem c_X8_matchesOf (Y : zG) (v1 : Int32) (s : zS) : zM Y yX8_matchesOf cX8_matchesOf 4 (some .int) (zR 1 22) [.ref (zy_a Y 76), .int v1] s zrI (f_X8_matchesOf v1 s) := by
  refine zm_start (by decide +kernel) (Nat.le_of_ble_eq_true rfl) ?_
  intro X hY hT hX
  subst hY
  have hX : zx_ok X cX8_matchesOf RX8 4 := hX
  show zV X (zq X zrI) 4 0 [(0, .ref (zx_ad X 76)), (1, .int v1)] [] s _
  unfold f_X8_matchesOf
  refine zv_iconst (v := (0 : Int32)) hX dX8_matchesOf_0 zi_i_0 ?_
  refine zv_istore_n (lv' := [(2, .int (0 : Int32)), (0, .ref (zx_ad X 76)), (1, .int v1)]) hX dX8_matchesOf_1 (by decide) rfl ?_
  refine zv_iconst (v := (0 : Int32)) hX dX8_matchesOf_2 zi_i_0 ?_
  refine zv_istore_n (lv' := [(3, .int (0 : Int32)), (2, .int (0 : Int32)), (0, .ref (zx_ad X 76)), (1, .int v1)]) hX dX8_matchesOf_3 (by decide) rfl ?_
  exact zv_sub [2, 3, 1, 0] rfl (b_X8_matchesOf_4 hX hT zFU v1 (0 : Int32) (0 : Int32) s)
theorem dX8_misfits_0 : decode cX8_misfits 0 = .ok (.aload_n 0, 1) := by decide +kernel
theorem dX8_misfits_1 : decode cX8_misfits 1 = .ok (.iconst 0, 1) := by decide +kernel
theorem dX8_misfits_2 : decode cX8_misfits 2 = .ok (.putfield 1, 3) := by decide +kernel
theorem dX8_misfits_5 : decode cX8_misfits 5 = .ok (.aload_n 0, 1) := by decide +kernel
theorem dX8_misfits_6 : decode cX8_misfits 6 = .ok (.invokevirtual 417, 3) := by decide +kernel
theorem dX8_misfits_9 : decode cX8_misfits 9 = .ok (.iconst 3, 1) := by decide +kernel
theorem dX8_misfits_10 : decode cX8_misfits 10 = .ok (.istore_n 1, 1) := by decide +kernel
theorem dX8_misfits_11 : decode cX8_misfits 11 = .ok (.iload_n 1, 1) := by decide +kernel
theorem dX8_misfits_12 : decode cX8_misfits 12 = .ok (.iconst 4, 1) := by decide +kernel
theorem dX8_misfits_13 : decode cX8_misfits 13 = .ok (.if_icmp .gt 56, 3) := by decide +kernel
theorem dX8_misfits_16 : decode cX8_misfits 16 = .ok (.iconst 1, 1) := by decide +kernel
theorem dX8_misfits_17 : decode cX8_misfits 17 = .ok (.istore_n 2, 1) := by decide +kernel
theorem dX8_misfits_18 : decode cX8_misfits 18 = .ok (.iload_n 2, 1) := by decide +kernel
theorem dX8_misfits_19 : decode cX8_misfits 19 = .ok (.iconst 1, 1) := by decide +kernel
theorem dX8_misfits_20 : decode cX8_misfits 20 = .ok (.aload_n 0, 1) := by decide +kernel
theorem dX8_misfits_21 : decode cX8_misfits 21 = .ok (.getfield 13, 3) := by decide +kernel
theorem dX8_misfits_24 : decode cX8_misfits 24 = .ok (.iconst 1, 1) := by decide +kernel
theorem dX8_misfits_25 : decode cX8_misfits 25 = .ok (.iaload, 1) := by decide +kernel
theorem dX8_misfits_26 : decode cX8_misfits 26 = .ok (.ishl, 1) := by decide +kernel
theorem dX8_misfits_27 : decode cX8_misfits 27 = .ok (.if_icmp .ge 36, 3) := by decide +kernel
theorem dX8_misfits_30 : decode cX8_misfits 30 = .ok (.iload_n 2, 1) := by decide +kernel
theorem dX8_misfits_31 : decode cX8_misfits 31 = .ok (.invokestatic 233, 3) := by decide +kernel
theorem dX8_misfits_34 : decode cX8_misfits 34 = .ok (.iload_n 1, 1) := by decide +kernel
theorem dX8_misfits_35 : decode cX8_misfits 35 = .ok (.if_icmp .ne 22, 3) := by decide +kernel
theorem dX8_misfits_38 : decode cX8_misfits 38 = .ok (.aload_n 0, 1) := by decide +kernel
theorem dX8_misfits_39 : decode cX8_misfits 39 = .ok (.getfield 69, 3) := by decide +kernel
theorem dX8_misfits_42 : decode cX8_misfits 42 = .ok (.iload_n 2, 1) := by decide +kernel
theorem dX8_misfits_43 : decode cX8_misfits 43 = .ok (.baload, 1) := by decide +kernel
theorem dX8_misfits_44 : decode cX8_misfits 44 = .ok (.ifCond .ne 13, 3) := by decide +kernel
theorem dX8_misfits_47 : decode cX8_misfits 47 = .ok (.aload_n 0, 1) := by decide +kernel
theorem dX8_misfits_48 : decode cX8_misfits 48 = .ok (.iload_n 2, 1) := by decide +kernel
theorem dX8_misfits_49 : decode cX8_misfits 49 = .ok (.invokevirtual 420, 3) := by decide +kernel
theorem dX8_misfits_52 : decode cX8_misfits 52 = .ok (.ifCond .eq 5, 3) := by decide +kernel
theorem dX8_misfits_55 : decode cX8_misfits 55 = .ok (.iload_n 2, 1) := by decide +kernel
theorem dX8_misfits_56 : decode cX8_misfits 56 = .ok (.ireturn, 1) := by decide +kernel
theorem dX8_misfits_57 : decode cX8_misfits 57 = .ok (.iinc 2 1, 3) := by decide +kernel
theorem dX8_misfits_60 : decode cX8_misfits 60 = .ok (.goto (-42), 3) := by decide +kernel
theorem dX8_misfits_63 : decode cX8_misfits 63 = .ok (.iinc 1 1, 3) := by decide +kernel
theorem dX8_misfits_66 : decode cX8_misfits 66 = .ok (.goto (-55), 3) := by decide +kernel
theorem dX8_misfits_69 : decode cX8_misfits 69 = .ok (.iconst 0, 1) := by decide +kernel
theorem dX8_misfits_70 : decode cX8_misfits 70 = .ok (.ireturn, 1) := by decide +kernel
def f_X8_misfits_57 (kb_11 : Int32 → zS → Option (Int32 × zS)) (kb_18 : Int32 → Int32 → zS → Option (Int32 × zS)) (v1 : Int32) (v2 : Int32) (s : zS) : Option (Int32 × zS) :=
  zb (v2 + (1 : Int32)) fun x1 =>
  kb_18 v1 x1 s
set_option maxRecDepth 20000 in
theorem b_X8_misfits_57 {X : zX} {kb_11 : Int32 → zS → Option (Int32 × zS)} {kb_18 : Int32 → Int32 → zS → Option (Int32 × zS)} (hX : zx_ok X cX8_misfits RX8 3) (hT : zx_rt X (some .int) (zR 70 1734)) (hk_11 : ∀ (v1 : Int32) (s : zS), zV X (zq X zrI) 3 11 [(0, .ref (zx_ad X 76)), (1, .int v1)] [] s (kb_11 v1 s)) (hk_18 : ∀ (v1 : Int32) (v2 : Int32) (s : zS), zV X (zq X zrI) 3 18 [(0, .ref (zx_ad X 76)), (1, .int v1), (2, .int v2)] [] s (kb_18 v1 v2 s)) : ∀ (v1 : Int32) (v2 : Int32) (s : zS), zV X (zq X zrI) 3 57 [(0, .ref (zx_ad X 76)), (1, .int v1), (2, .int v2)] [] s (f_X8_misfits_57 kb_11 kb_18 v1 v2 s) := by
  intro v1 v2 s
  unfold f_X8_misfits_57
  refine zv_iincB (lw := fun x1 => [(2, .int x1), (0, .ref (zx_ad X 76)), (1, .int v1)]) hX dX8_misfits_57 2 rfl zi_i_1 (by decide) (fun _ => rfl) (fun x1 => ?_)
  refine zv_goto (tgt := 18) hX dX8_misfits_60 rfl ?_
  exact zv_sub [1, 2, 0] rfl (hk_18 v1 x1 s)
def f_X8_misfits_18 (kb_11 : Int32 → zS → Option (Int32 × zS)) : Nat → Int32 → Int32 → zS → Option (Int32 × zS)
  | 0, _, _, _ => none
  | n + 1, v1, v2, s =>
    (zr_i s 77 (1 : Int32)).bind fun x2 =>
    if (zo_shl (1 : Int32) x2) ≤ v2 then
    (zb (v1 + (1 : Int32)) fun x3 =>
    kb_11 x3 s)
    else
    zbd (f_X8_bitsOf v2 s) fun r4 s5 =>
    if ¬ r4 = v1 then
    (f_X8_misfits_57 kb_11 (f_X8_misfits_18 kb_11 n) v1 v2 s5)
    else
    (zr_b s5 94 v2).bind fun x6 =>
    if ¬ x6 = 0 then
    (f_X8_misfits_57 kb_11 (f_X8_misfits_18 kb_11 n) v1 v2 s5)
    else
    zbd (f_X8_eachTwo v2 s5) fun r7 s8 =>
    if r7 = 0 then
    (f_X8_misfits_57 kb_11 (f_X8_misfits_18 kb_11 n) v1 v2 s8)
    else
    some (v2, s8)
set_option maxRecDepth 20000 in
theorem b_X8_misfits_18 {X : zX} {kb_11 : Int32 → zS → Option (Int32 × zS)} (hX : zx_ok X cX8_misfits RX8 3) (hT : zx_rt X (some .int) (zR 70 1734)) (hk_11 : ∀ (v1 : Int32) (s : zS), zV X (zq X zrI) 3 11 [(0, .ref (zx_ad X 76)), (1, .int v1)] [] s (kb_11 v1 s)) : ∀ (n : Nat) (v1 : Int32) (v2 : Int32) (s : zS), zV X (zq X zrI) 3 18 [(0, .ref (zx_ad X 76)), (1, .int v1), (2, .int v2)] [] s (f_X8_misfits_18 kb_11 n v1 v2 s) := by
  intro n
  induction n with
  | zero => intro v1 v2 s; exact zv_none
  | succ n ih =>
    intro v1 v2 s
    rw [f_X8_misfits_18]
    refine zv_iload_n hX dX8_misfits_18 2 rfl ?_
    refine zv_iconst (v := (1 : Int32)) hX dX8_misfits_19 zi_i_1 ?_
    refine zv_aload_n hX dX8_misfits_20 0 rfl ?_
    refine zv_geta hX wf_X8_13 wc_8 zd_76 zj_76_1 c9_8 zr_76_1 (by decide) dX8_misfits_21 ?_
    refine zv_iconst (v := (1 : Int32)) hX dX8_misfits_24 zi_i_1 ?_
    refine zv_iald hX dX8_misfits_25 (fun x2 => ?_)
    refine zv_ishl hX dX8_misfits_26 ?_
    refine zv_icmp_ge (tgt := 63) hX dX8_misfits_27 rfl ?_ ?_
    · refine zv_iincB (lw := fun x3 => [(1, .int x3), (0, .ref (zx_ad X 76)), (2, .int v2)]) hX dX8_misfits_63 1 rfl zi_i_1 (by decide) (fun _ => rfl) (fun x3 => ?_)
      refine zv_goto (tgt := 11) hX dX8_misfits_66 rfl ?_
      exact zv_sub [1, 0] rfl (hk_11 x3 s)
    · refine zv_iload_n hX dX8_misfits_30 2 rfl ?_
      refine zv_cSI [.int v2] (rest := []) hX hT.2.2.2.2 (c_X8_bitsOf (zx_Y X) v2 s) wv_X8_bitsOf wm_X8_233 rfl (Nat.le_of_ble_eq_true rfl) (Nat.le_of_ble_eq_true rfl) rfl (Nat.le_of_ble_eq_true rfl) dX8_misfits_31 (fun r4 s5 => ?_)
      refine zv_iload_n hX dX8_misfits_34 1 rfl ?_
      refine zv_icmp_ne (tgt := 57) hX dX8_misfits_35 rfl ?_ ?_
      · exact b_X8_misfits_57 hX hT hk_11 ih v1 v2 s5
      · refine zv_aload_n hX dX8_misfits_38 0 rfl ?_
        refine zv_geta hX wf_X8_69 wc_8 zd_76 zj_76_35 c9_8 zr_76_35 (by decide) dX8_misfits_39 ?_
        refine zv_iload_n hX dX8_misfits_42 2 rfl ?_
        refine zv_bald hX dX8_misfits_43 (fun x6 => ?_)
        refine zv_if_ne (tgt := 57) hX dX8_misfits_44 rfl ?_ ?_
        · exact b_X8_misfits_57 hX hT hk_11 ih v1 v2 s5
        · refine zv_aload_n hX dX8_misfits_47 0 rfl ?_
          refine zv_iload_n hX dX8_misfits_48 2 rfl ?_
          refine zv_cVI [.int v2] (rest := []) hX hT.2.2.2.2 (c_X8_eachTwo (zx_Y X) v2 s5) wv_X8_eachTwo c9_8 zd_76 wm_X8_420 rfl (Nat.le_of_ble_eq_true rfl) (Nat.le_of_ble_eq_true rfl) rfl (Nat.le_of_ble_eq_true rfl) dX8_misfits_49 (fun r7 s8 => ?_)
          refine zv_if_eq (tgt := 57) hX dX8_misfits_52 rfl ?_ ?_
          · exact b_X8_misfits_57 hX hT hk_11 ih v1 v2 s8
          · refine zv_iload_n hX dX8_misfits_55 2 rfl ?_
            exact zv_ireti hX hT dX8_misfits_56
def f_X8_misfits_11 : Nat → Int32 → zS → Option (Int32 × zS)
  | 0, _, _ => none
  | n + 1, v1, s =>
    if (nI 4) < v1 then
    (some ((0 : Int32), s))
    else
    f_X8_misfits_18 (f_X8_misfits_11 n) zFU v1 (1 : Int32) s
set_option maxRecDepth 20000 in
theorem b_X8_misfits_11 {X : zX} (hX : zx_ok X cX8_misfits RX8 3) (hT : zx_rt X (some .int) (zR 70 1734)) : ∀ (n : Nat) (v1 : Int32) (s : zS), zV X (zq X zrI) 3 11 [(0, .ref (zx_ad X 76)), (1, .int v1)] [] s (f_X8_misfits_11 n v1 s) := by
  intro n
  induction n with
  | zero => intro v1 s; exact zv_none
  | succ n ih =>
    intro v1 s
    rw [f_X8_misfits_11]
    refine zv_iload_n hX dX8_misfits_11 1 rfl ?_
    refine zv_iconst (v := (nI 4)) hX dX8_misfits_12 zi_i_4 ?_
    refine zv_icmp_gt (tgt := 69) hX dX8_misfits_13 rfl ?_ ?_
    · refine zv_iconst (v := (0 : Int32)) hX dX8_misfits_69 zi_i_0 ?_
      exact zv_ireti hX hT dX8_misfits_70
    · refine zv_iconst (v := (1 : Int32)) hX dX8_misfits_16 zi_i_1 ?_
      refine zv_istore_n (lv' := [(2, .int (1 : Int32)), (0, .ref (zx_ad X 76)), (1, .int v1)]) hX dX8_misfits_17 (by decide) rfl ?_
      exact zv_sub [1, 2, 0] rfl (b_X8_misfits_18 hX hT ih zFU v1 (1 : Int32) s)
def f_X8_misfits  (s : zS) : Option (Int32 × zS) :=
  zb (zs_i s 76 0 (0 : Int32)) fun s9 =>
  zbd (f_X8_laysFits s9) fun _ s10 =>
  f_X8_misfits_11 zFU (nI 3) s10
set_option maxRecDepth 20000 in
theorem c_X8_misfits (Y : zG)  (s : zS) : zM Y yX8_misfits cX8_misfits 3 (some .int) (zR 70 1734) [.ref (zy_a Y 76)] s zrI (f_X8_misfits  s) := by
  refine zm_start (by decide +kernel) (Nat.le_of_ble_eq_true rfl) ?_
  intro X hY hT hX
  subst hY
  have hX : zx_ok X cX8_misfits RX8 3 := hX
  show zV X (zq X zrI) 3 0 [(0, .ref (zx_ad X 76))] [] s _
  unfold f_X8_misfits
  refine zv_aload_n hX dX8_misfits_0 0 rfl ?_
  refine zv_iconst (v := (0 : Int32)) hX dX8_misfits_1 zi_i_0 ?_
  refine zv_puti hX wf_X8_1 wc_8 wk_8_0 zd_76 zj_76_0 c9_8 zr_76_0 dX8_misfits_2 (fun s9 => ?_)
  refine zv_aload_n hX dX8_misfits_5 0 rfl ?_
  refine zv_cVV [] (rest := []) hX hT.2.2.2.2 (c_X8_laysFits (zx_Y X) s9) wv_X8_laysFits c9_8 zd_76 wm_X8_417 rfl (Nat.le_of_ble_eq_true rfl) (Nat.le_of_ble_eq_true rfl) rfl (Nat.le_of_ble_eq_true rfl) dX8_misfits_6 (fun _ s10 => ?_)
  refine zv_iconst (v := (nI 3)) hX dX8_misfits_9 zi_i_3 ?_
  refine zv_istore_n (lv' := [(1, .int (nI 3)), (0, .ref (zx_ad X 76))]) hX dX8_misfits_10 (by decide) rfl ?_
  exact zv_sub [1, 0] rfl (b_X8_misfits_11 hX hT zFU (nI 3) s10)
