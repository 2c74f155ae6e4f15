theorem dX8_blotSet_0 : decode cX8_blotSet 0 = .ok (.iconst 0, 1) := by decide +kernel
theorem dX8_blotSet_1 : decode cX8_blotSet 1 = .ok (.istore_n 2, 1) := by decide +kernel
theorem dX8_blotSet_2 : decode cX8_blotSet 2 = .ok (.iconst 0, 1) := by decide +kernel
theorem dX8_blotSet_3 : decode cX8_blotSet 3 = .ok (.istore_n 3, 1) := by decide +kernel
theorem dX8_blotSet_4 : decode cX8_blotSet 4 = .ok (.iload_n 3, 1) := by decide +kernel
theorem dX8_blotSet_5 : decode cX8_blotSet 5 = .ok (.aload_n 0, 1) := by decide +kernel
theorem dX8_blotSet_6 : decode cX8_blotSet 6 = .ok (.getfield 13, 3) := by decide +kernel
theorem dX8_blotSet_9 : decode cX8_blotSet 9 = .ok (.iconst 1, 1) := by decide +kernel
theorem dX8_blotSet_10 : decode cX8_blotSet 10 = .ok (.iaload, 1) := by decide +kernel
theorem dX8_blotSet_11 : decode cX8_blotSet 11 = .ok (.if_icmp .ge 107, 3) := by decide +kernel
theorem dX8_blotSet_14 : decode cX8_blotSet 14 = .ok (.iconst 1, 1) := by decide +kernel
theorem dX8_blotSet_15 : decode cX8_blotSet 15 = .ok (.istore 4, 2) := by decide +kernel
theorem dX8_blotSet_17 : decode cX8_blotSet 17 = .ok (.iconst 0, 1) := by decide +kernel
theorem dX8_blotSet_18 : decode cX8_blotSet 18 = .ok (.istore 5, 2) := by decide +kernel
theorem dX8_blotSet_20 : decode cX8_blotSet 20 = .ok (.iload 5, 2) := by decide +kernel
theorem dX8_blotSet_22 : decode cX8_blotSet 22 = .ok (.aload_n 0, 1) := by decide +kernel
theorem dX8_blotSet_23 : decode cX8_blotSet 23 = .ok (.getfield 81, 3) := by decide +kernel
theorem dX8_blotSet_26 : decode cX8_blotSet 26 = .ok (.iload_n 1, 1) := by decide +kernel
theorem dX8_blotSet_27 : decode cX8_blotSet 27 = .ok (.iaload, 1) := by decide +kernel
theorem dX8_blotSet_28 : decode cX8_blotSet 28 = .ok (.if_icmp .ge 69, 3) := by decide +kernel
theorem dX8_blotSet_31 : decode cX8_blotSet 31 = .ok (.iload 4, 2) := by decide +kernel
theorem dX8_blotSet_33 : decode cX8_blotSet 33 = .ok (.aload_n 0, 1) := by decide +kernel
theorem dX8_blotSet_34 : decode cX8_blotSet 34 = .ok (.getfield 13, 3) := by decide +kernel
theorem dX8_blotSet_37 : decode cX8_blotSet 37 = .ok (.bipush 29, 2) := by decide +kernel
theorem dX8_blotSet_39 : decode cX8_blotSet 39 = .ok (.iload_n 3, 1) := by decide +kernel
theorem dX8_blotSet_40 : decode cX8_blotSet 40 = .ok (.iadd, 1) := by decide +kernel
theorem dX8_blotSet_41 : decode cX8_blotSet 41 = .ok (.iaload, 1) := by decide +kernel
theorem dX8_blotSet_42 : decode cX8_blotSet 42 = .ok (.aload_n 0, 1) := by decide +kernel
theorem dX8_blotSet_43 : decode cX8_blotSet 43 = .ok (.getfield 84, 3) := by decide +kernel
theorem dX8_blotSet_46 : decode cX8_blotSet 46 = .ok (.bipush 40, 2) := by decide +kernel
theorem dX8_blotSet_48 : decode cX8_blotSet 48 = .ok (.iload_n 1, 1) := by decide +kernel
theorem dX8_blotSet_49 : decode cX8_blotSet 49 = .ok (.imul, 1) := by decide +kernel
theorem dX8_blotSet_50 : decode cX8_blotSet 50 = .ok (.iload 5, 2) := by decide +kernel
theorem dX8_blotSet_52 : decode cX8_blotSet 52 = .ok (.iadd, 1) := by decide +kernel
theorem dX8_blotSet_53 : decode cX8_blotSet 53 = .ok (.laload, 1) := by decide +kernel
theorem dX8_blotSet_54 : decode cX8_blotSet 54 = .ok (.ldc2_w 427, 3) := by decide +kernel
theorem dX8_blotSet_57 : decode cX8_blotSet 57 = .ok (.ldiv, 1) := by decide +kernel
theorem dX8_blotSet_58 : decode cX8_blotSet 58 = .ok (.l2i, 1) := by decide +kernel
theorem dX8_blotSet_59 : decode cX8_blotSet 59 = .ok (.ishr, 1) := by decide +kernel
theorem dX8_blotSet_60 : decode cX8_blotSet 60 = .ok (.iconst 1, 1) := by decide +kernel
theorem dX8_blotSet_61 : decode cX8_blotSet 61 = .ok (.iand, 1) := by decide +kernel
theorem dX8_blotSet_62 : decode cX8_blotSet 62 = .ok (.i2l, 1) := by decide +kernel
theorem dX8_blotSet_63 : decode cX8_blotSet 63 = .ok (.aload_n 0, 1) := by decide +kernel
theorem dX8_blotSet_64 : decode cX8_blotSet 64 = .ok (.getfield 84, 3) := by decide +kernel
theorem dX8_blotSet_67 : decode cX8_blotSet 67 = .ok (.bipush 40, 2) := by decide +kernel
theorem dX8_blotSet_69 : decode cX8_blotSet 69 = .ok (.iload_n 1, 1) := by decide +kernel
theorem dX8_blotSet_70 : decode cX8_blotSet 70 = .ok (.imul, 1) := by decide +kernel
theorem dX8_blotSet_71 : decode cX8_blotSet 71 = .ok (.iload 5, 2) := by decide +kernel
theorem dX8_blotSet_73 : decode cX8_blotSet 73 = .ok (.iadd, 1) := by decide +kernel
theorem dX8_blotSet_74 : decode cX8_blotSet 74 = .ok (.laload, 1) := by decide +kernel
theorem dX8_blotSet_75 : decode cX8_blotSet 75 = .ok (.ldc2_w 427, 3) := by decide +kernel
theorem dX8_blotSet_78 : decode cX8_blotSet 78 = .ok (.lrem, 1) := by decide +kernel
theorem dX8_blotSet_79 : decode cX8_blotSet 79 = .ok (.lcmp, 1) := by decide +kernel
theorem dX8_blotSet_80 : decode cX8_blotSet 80 = .ok (.ifCond .ne 7, 3) := by decide +kernel
theorem dX8_blotSet_83 : decode cX8_blotSet 83 = .ok (.iconst 1, 1) := by decide +kernel
theorem dX8_blotSet_84 : decode cX8_blotSet 84 = .ok (.goto 4, 3) := by decide +kernel
theorem dX8_blotSet_87 : decode cX8_blotSet 87 = .ok (.iconst 0, 1) := by decide +kernel
theorem dX8_blotSet_88 : decode cX8_blotSet 88 = .ok (.iand, 1) := by decide +kernel
theorem dX8_blotSet_89 : decode cX8_blotSet 89 = .ok (.istore 4, 2) := by decide +kernel
theorem dX8_blotSet_91 : decode cX8_blotSet 91 = .ok (.iinc 5 1, 3) := by decide +kernel
theorem dX8_blotSet_94 : decode cX8_blotSet 94 = .ok (.goto (-74), 3) := by decide +kernel
theorem dX8_blotSet_97 : decode cX8_blotSet 97 = .ok (.iload_n 2, 1) := by decide +kernel
theorem dX8_blotSet_98 : decode cX8_blotSet 98 = .ok (.iload 4, 2) := by decide +kernel
theorem dX8_blotSet_100 : decode cX8_blotSet 100 = .ok (.ifCond .eq 9, 3) := by decide +kernel
theorem dX8_blotSet_103 : decode cX8_blotSet 103 = .ok (.iconst 1, 1) := by decide +kernel
theorem dX8_blotSet_104 : decode cX8_blotSet 104 = .ok (.iload_n 3, 1) := by decide +kernel
theorem dX8_blotSet_105 : decode cX8_blotSet 105 = .ok (.ishl, 1) := by decide +kernel
theorem dX8_blotSet_106 : decode cX8_blotSet 106 = .ok (.goto 4, 3) := by decide +kernel
theorem dX8_blotSet_109 : decode cX8_blotSet 109 = .ok (.iconst 0, 1) := by decide +kernel
theorem dX8_blotSet_110 : decode cX8_blotSet 110 = .ok (.ior, 1) := by decide +kernel
theorem dX8_blotSet_111 : decode cX8_blotSet 111 = .ok (.istore_n 2, 1) := by decide +kernel
theorem dX8_blotSet_112 : decode cX8_blotSet 112 = .ok (.iinc 3 1, 3) := by decide +kernel
theorem dX8_blotSet_115 : decode cX8_blotSet 115 = .ok (.goto (-111), 3) := by decide +kernel
theorem dX8_blotSet_118 : decode cX8_blotSet 118 = .ok (.iload_n 2, 1) := by decide +kernel
theorem dX8_blotSet_119 : decode cX8_blotSet 119 = .ok (.ireturn, 1) := by decide +kernel
def f_X8_blotSet_110 (kb_4 : Int32 → Int32 → Int32 → zS → Option (Int32 × zS)) (v1 : Int32) (v3 : Int32) (w0 : Int32) (w1 : Int32) (s : zS) : Option (Int32 × zS) :=
  zb (w1 ||| w0) fun x1 =>
  zb (v3 + (1 : Int32)) fun x2 =>
  kb_4 v1 x1 x2 s
set_option maxRecDepth 20000 in
theorem b_X8_blotSet_110 {X : zX} {kb_4 : Int32 → Int32 → Int32 → zS → Option (Int32 × zS)} (hX : zx_ok X cX8_blotSet RX8 6) (hT : zx_rt X (some .int) (zR 0 0)) (hk_4 : ∀ (v1 : Int32) (v2 : Int32) (v3 : Int32) (s : zS), zV X (zq X zrI) 6 4 [(0, .ref (zx_ad X 76)), (1, .int v1), (2, .int v2), (3, .int v3)] [] s (kb_4 v1 v2 v3 s)) : ∀ (v1 : Int32) (v3 : Int32) (w0 : Int32) (w1 : Int32) (s : zS), zV X (zq X zrI) 6 110 [(0, .ref (zx_ad X 76)), (1, .int v1), (3, .int v3)] [.int w0, .int w1] s (f_X8_blotSet_110 kb_4 v1 v3 w0 w1 s) := by
  intro v1 v3 w0 w1 s
  unfold f_X8_blotSet_110
  refine zv_ior hX dX8_blotSet_110 ?_
  refine zv_istB_n (lw := fun x1 => [(2, .int x1), (0, .ref (zx_ad X 76)), (1, .int v1), (3, .int v3)]) hX dX8_blotSet_111 (by decide) (fun _ => rfl) (fun x1 => ?_)
  refine zv_iincB (lw := fun x2 => [(3, .int x2), (2, .int x1), (0, .ref (zx_ad X 76)), (1, .int v1)]) hX dX8_blotSet_112 3 rfl zi_i_1 (by decide) (fun _ => rfl) (fun x2 => ?_)
  refine zv_goto (tgt := 4) hX dX8_blotSet_115 rfl ?_
  exact zv_sub [2, 3, 1, 0] rfl (hk_4 v1 x1 x2 s)
def f_X8_blotSet_88 (kb_4 : Int32 → Int32 → Int32 → zS → Option (Int32 × zS)) (kb_20 : Int32 → Int32 → Int32 → Int32 → Int32 → zS → Option (Int32 × zS)) (v1 : Int32) (v2 : Int32) (v3 : Int32) (v5 : Int32) (w0 : Int32) (w1 : Int32) (s : zS) : Option (Int32 × zS) :=
  zb (w1 &&& w0) fun x3 =>
  zb (v5 + (1 : Int32)) fun x4 =>
  kb_20 v1 v2 v3 x3 x4 s
set_option maxRecDepth 20000 in
theorem b_X8_blotSet_88 {X : zX} {kb_4 : Int32 → Int32 → Int32 → zS → Option (Int32 × zS)} {kb_20 : Int32 → Int32 → Int32 → Int32 → Int32 → zS → Option (Int32 × zS)} (hX : zx_ok X cX8_blotSet RX8 6) (hT : zx_rt X (some .int) (zR 0 0)) (hk_4 : ∀ (v1 : Int32) (v2 : Int32) (v3 : Int32) (s : zS), zV X (zq X zrI) 6 4 [(0, .ref (zx_ad X 76)), (1, .int v1), (2, .int v2), (3, .int v3)] [] s (kb_4 v1 v2 v3 s)) (hk_20 : ∀ (v1 : Int32) (v2 : Int32) (v3 : Int32) (v4 : Int32) (v5 : Int32) (s : zS), zV X (zq X zrI) 6 20 [(0, .ref (zx_ad X 76)), (1, .int v1), (2, .int v2), (3, .int v3), (4, .int v4), (5, .int v5)] [] s (kb_20 v1 v2 v3 v4 v5 s)) : ∀ (v1 : Int32) (v2 : Int32) (v3 : Int32) (v5 : Int32) (w0 : Int32) (w1 : Int32) (s : zS), zV X (zq X zrI) 6 88 [(0, .ref (zx_ad X 76)), (1, .int v1), (2, .int v2), (3, .int v3), (5, .int v5)] [.int w0, .int w1] s (f_X8_blotSet_88 kb_4 kb_20 v1 v2 v3 v5 w0 w1 s) := by
  intro v1 v2 v3 v5 w0 w1 s
  unfold f_X8_blotSet_88
  refine zv_iand hX dX8_blotSet_88 ?_
  refine zv_istB (lw := fun x3 => [(4, .int x3), (0, .ref (zx_ad X 76)), (1, .int v1), (2, .int v2), (3, .int v3), (5, .int v5)]) hX dX8_blotSet_89 (by decide) (fun _ => rfl) (fun x3 => ?_)
  refine zv_iincB (lw := fun x4 => [(5, .int x4), (4, .int x3), (0, .ref (zx_ad X 76)), (1, .int v1), (2, .int v2), (3, .int v3)]) hX dX8_blotSet_91 5 rfl zi_i_1 (by decide) (fun _ => rfl) (fun x4 => ?_)
  refine zv_goto (tgt := 20) hX dX8_blotSet_94 rfl ?_
  exact zv_sub [2, 3, 4, 5, 1, 0] rfl (hk_20 v1 v2 v3 x3 x4 s)
def f_X8_blotSet_20 (kb_4 : Int32 → Int32 → Int32 → zS → Option (Int32 × zS)) : Nat → Int32 → Int32 → Int32 → Int32 → Int32 → zS → Option (Int32 × zS)
  | 0, _, _, _, _, _, _ => none
  | n + 1, v1, v2, v3, v4, v5, s =>
    (zr_i s 98 v1).bind fun x5 =>
    if x5 ≤ v5 then
    (if v4 = 0 then
    (f_X8_blotSet_110 kb_4 v1 v3 (0 : Int32) v2 s)
    else
    f_X8_blotSet_110 kb_4 v1 v3 (zo_shl (1 : Int32) v3) v2 s)
    else
    (zr_i s 77 ((nI 29) + v3)).bind fun x6 =>
    (zr_l s 99 (((nI 40) * v1) + v5)).bind fun x7 =>
    (zr_l s 99 (((nI 40) * v1) + v5)).bind fun x8 =>
    if ¬ (lg_cmp (((zo_shr x6 ((x7 / (2 : Int64)).toInt32)) &&& (1 : Int32)).toInt64) (zo_lrem x8 (2 : Int64))) = 0 then
    (f_X8_blotSet_88 kb_4 (f_X8_blotSet_20 kb_4 n) v1 v2 v3 v5 (0 : Int32) v4 s)
    else
    f_X8_blotSet_88 kb_4 (f_X8_blotSet_20 kb_4 n) v1 v2 v3 v5 (1 : Int32) v4 s
set_option maxRecDepth 20000 in
theorem b_X8_blotSet_20 {X : zX} {kb_4 : Int32 → Int32 → Int32 → zS → Option (Int32 × zS)} (hX : zx_ok X cX8_blotSet RX8 6) (hT : zx_rt X (some .int) (zR 0 0)) (hk_4 : ∀ (v1 : Int32) (v2 : Int32) (v3 : Int32) (s : zS), zV X (zq X zrI) 6 4 [(0, .ref (zx_ad X 76)), (1, .int v1), (2, .int v2), (3, .int v3)] [] s (kb_4 v1 v2 v3 s)) : ∀ (n : Nat) (v1 : Int32) (v2 : Int32) (v3 : Int32) (v4 : Int32) (v5 : Int32) (s : zS), zV X (zq X zrI) 6 20 [(0, .ref (zx_ad X 76)), (1, .int v1), (2, .int v2), (3, .int v3), (4, .int v4), (5, .int v5)] [] s (f_X8_blotSet_20 kb_4 n v1 v2 v3 v4 v5 s) := by
  intro n
  induction n with
  | zero => intro v1 v2 v3 v4 v5 s; exact zv_none
  | succ n ih =>
    intro v1 v2 v3 v4 v5 s
    rw [f_X8_blotSet_20]
    refine zv_iload hX dX8_blotSet_20 5 rfl ?_
    refine zv_aload_n hX dX8_blotSet_22 0 rfl ?_
    refine zv_geta hX wf_X8_81 wc_8 zd_76 zj_76_39 c9_8 zr_76_39 (by decide) dX8_blotSet_23 ?_
    refine zv_iload_n hX dX8_blotSet_26 1 rfl ?_
    refine zv_iald hX dX8_blotSet_27 (fun x5 => ?_)
    refine zv_icmp_ge (tgt := 97) hX dX8_blotSet_28 rfl ?_ ?_
    · refine zv_iload_n hX dX8_blotSet_97 2 rfl ?_
      refine zv_iload hX dX8_blotSet_98 4 rfl ?_
      refine zv_if_eq (tgt := 109) hX dX8_blotSet_100 rfl ?_ ?_
      · refine zv_iconst (v := (0 : Int32)) hX dX8_blotSet_109 zi_i_0 ?_
        exact zv_sub [0, 1, 3] rfl (b_X8_blotSet_110 hX hT hk_4 v1 v3 (0 : Int32) v2 s)
      · refine zv_iconst (v := (1 : Int32)) hX dX8_blotSet_103 zi_i_1 ?_
        refine zv_iload_n hX dX8_blotSet_104 3 rfl ?_
        refine zv_ishl hX dX8_blotSet_105 ?_
        refine zv_goto (tgt := 110) hX dX8_blotSet_106 rfl ?_
        exact zv_sub [0, 1, 3] rfl (b_X8_blotSet_110 hX hT hk_4 v1 v3 (zo_shl (1 : Int32) v3) v2 s)
    · refine zv_iload hX dX8_blotSet_31 4 rfl ?_
      refine zv_aload_n hX dX8_blotSet_33 0 rfl ?_
      refine zv_geta hX wf_X8_13 wc_8 zd_76 zj_76_1 c9_8 zr_76_1 (by decide) dX8_blotSet_34 ?_
      refine zv_bipush (v := (nI 29)) hX dX8_blotSet_37 zi_b_29 ?_
      refine zv_iload_n hX dX8_blotSet_39 3 rfl ?_
      refine zv_iadd hX dX8_blotSet_40 ?_
      refine zv_iald hX dX8_blotSet_41 (fun x6 => ?_)
      refine zv_aload_n hX dX8_blotSet_42 0 rfl ?_
      refine zv_geta hX wf_X8_84 wc_8 zd_76 zj_76_40 c9_8 zr_76_40 (by decide) dX8_blotSet_43 ?_
      refine zv_bipush (v := (nI 40)) hX dX8_blotSet_46 zi_b_40 ?_
      refine zv_iload_n hX dX8_blotSet_48 1 rfl ?_
      refine zv_imul hX dX8_blotSet_49 ?_
      refine zv_iload hX dX8_blotSet_50 5 rfl ?_
      refine zv_iadd hX dX8_blotSet_52 ?_
      refine zv_lald hX dX8_blotSet_53 (fun x7 => ?_)
      refine zv_ldc2 hX wn_X8_427 dX8_blotSet_54 ?_
      refine zv_ldiv hX dX8_blotSet_57 (by decide) ?_
      refine zv_l2i hX dX8_blotSet_58 ?_
      refine zv_ishr hX dX8_blotSet_59 ?_
      refine zv_iconst (v := (1 : Int32)) hX dX8_blotSet_60 zi_i_1 ?_
      refine zv_iand hX dX8_blotSet_61 ?_
      refine zv_i2l hX dX8_blotSet_62 ?_
      refine zv_aload_n hX dX8_blotSet_63 0 rfl ?_
      refine zv_geta hX wf_X8_84 wc_8 zd_76 zj_76_40 c9_8 zr_76_40 (by decide) dX8_blotSet_64 ?_
      refine zv_bipush (v := (nI 40)) hX dX8_blotSet_67 zi_b_40 ?_
      refine zv_iload_n hX dX8_blotSet_69 1 rfl ?_
      refine zv_imul hX dX8_blotSet_70 ?_
      refine zv_iload hX dX8_blotSet_71 5 rfl ?_
      refine zv_iadd hX dX8_blotSet_73 ?_
      refine zv_lald hX dX8_blotSet_74 (fun x8 => ?_)
      refine zv_ldc2 hX wn_X8_427 dX8_blotSet_75 ?_
      refine zv_lrem hX dX8_blotSet_78 (by decide) ?_
      refine zv_lcmp hX dX8_blotSet_79 ?_
      refine zv_if_ne (tgt := 87) hX dX8_blotSet_80 rfl ?_ ?_
      · refine zv_iconst (v := (0 : Int32)) hX dX8_blotSet_87 zi_i_0 ?_
        exact zv_sub [0, 1, 2, 3, 5] rfl (b_X8_blotSet_88 hX hT hk_4 ih v1 v2 v3 v5 (0 : Int32) v4 s)
      · refine zv_iconst (v := (1 : Int32)) hX dX8_blotSet_83 zi_i_1 ?_
        refine zv_goto (tgt := 88) hX dX8_blotSet_84 rfl ?_
        exact zv_sub [0, 1, 2, 3, 5] rfl (b_X8_blotSet_88 hX hT hk_4 ih v1 v2 v3 v5 (1 : Int32) v4 s)
def f_X8_blotSet_4 : Nat → Int32 → Int32 → Int32 → zS → Option (Int32 × zS)
  | 0, _, _, _, _ => none
  | n + 1, v1, v2, v3, s =>
    (zr_i s 77 (1 : Int32)).bind fun x9 =>
    if x9 ≤ v3 then
    (some (v2, s))
    else
    f_X8_blotSet_20 (f_X8_blotSet_4 n) zFU v1 v2 v3 (1 : Int32) (0 : Int32) s
set_option maxRecDepth 20000 in
theorem b_X8_blotSet_4 {X : zX} (hX : zx_ok X cX8_blotSet RX8 6) (hT : zx_rt X (some .int) (zR 0 0)) : ∀ (n : Nat) (v1 : Int32) (v2 : Int32) (v3 : Int32) (s : zS), zV X (zq X zrI) 6 4 [(0, .ref (zx_ad X 76)), (1, .int v1), (2, .int v2), (3, .int v3)] [] s (f_X8_blotSet_4 n v1 v2 v3 s) := by
  intro n
  induction n with
  | zero => intro v1 v2 v3 s; exact zv_none
  | succ n ih =>
    intro v1 v2 v3 s
    rw [f_X8_blotSet_4]
    refine zv_iload_n hX dX8_blotSet_4 3 rfl ?_
    refine zv_aload_n hX dX8_blotSet_5 0 rfl ?_
    refine zv_geta hX wf_X8_13 wc_8 zd_76 zj_76_1 c9_8 zr_76_1 (by decide) dX8_blotSet_6 ?_
    refine zv_iconst (v := (1 : Int32)) hX dX8_blotSet_9 zi_i_1 ?_
    refine zv_iald hX dX8_blotSet_10 (fun x9 => ?_)
    refine zv_icmp_ge (tgt := 118) hX dX8_blotSet_11 rfl ?_ ?_
    · refine zv_iload_n hX dX8_blotSet_118 2 rfl ?_
      exact zv_ireti hX hT dX8_blotSet_119
    · refine zv_iconst (v := (1 : Int32)) hX dX8_blotSet_14 zi_i_1 ?_
      refine zv_istore (lv' := [(4, .int (1 : Int32)), (0, .ref (zx_ad X 76)), (1, .int v1), (2, .int v2), (3, .int v3)]) hX dX8_blotSet_15 (by decide) rfl ?_
      refine zv_iconst (v := (0 : Int32)) hX dX8_blotSet_17 zi_i_0 ?_
      refine zv_istore (lv' := [(5, .int (0 : Int32)), (4, .int (1 : Int32)), (0, .ref (zx_ad X 76)), (1, .int v1), (2, .int v2), (3, .int v3)]) hX dX8_blotSet_18 (by decide) rfl ?_
      exact zv_sub [2, 3, 4, 5, 1, 0] rfl (b_X8_blotSet_20 hX hT ih zFU v1 v2 v3 (1 : Int32) (0 : Int32) s)
def f_X8_blotSet (v1 : Int32) (s : zS) : Option (Int32 × zS) :=
  f_X8_blotSet_4 zFU v1 (0 : Int32) (0 : Int32) s
set_option maxRecDepth 20000 in
theorem c_X8_blotSet (Y : zG) (v1 : Int32) (s : zS) : zM Y yX8_blotSet cX8_blotSet 6 (some .int) (zR 0 0) [.ref (zy_a Y 76), .int v1] s zrI (f_X8_blotSet v1 s) := by
  refine zm_start (by decide +kernel) (Nat.le_of_ble_eq_true rfl) ?_
  intro X hY hT hX
  subst hY
  have hX : zx_ok X cX8_blotSet RX8 6 := hX
  show zV X (zq X zrI) 6 0 [(0, .ref (zx_ad X 76)), (1, .int v1)] [] s _
  unfold f_X8_blotSet
  refine zv_iconst (v := (0 : Int32)) hX dX8_blotSet_0 zi_i_0 ?_
  refine zv_istore_n (lv' := [(2, .int (0 : Int32)), (0, .ref (zx_ad X 76)), (1, .int v1)]) hX dX8_blotSet_1 (by decide) rfl ?_
  refine zv_iconst (v := (0 : Int32)) hX dX8_blotSet_2 zi_i_0 ?_
  refine zv_istore_n (lv' := [(3, .int (0 : Int32)), (2, .int (0 : Int32)), (0, .ref (zx_ad X 76)), (1, .int v1)]) hX dX8_blotSet_3 (by decide) rfl ?_
  exact zv_sub [2, 3, 1, 0] rfl (b_X8_blotSet_4 hX hT zFU v1 (0 : Int32) (0 : Int32) s)
theorem dX8_noBlot_0 : decode cX8_noBlot 0 = .ok (.aload_n 0, 1) := by decide +kernel
theorem dX8_noBlot_1 : decode cX8_noBlot 1 = .ok (.iload_n 1, 1) := by decide +kernel
theorem dX8_noBlot_2 : decode cX8_noBlot 2 = .ok (.invokevirtual 352, 3) := by decide +kernel
theorem dX8_noBlot_5 : decode cX8_noBlot 5 = .ok (.istore_n 2, 1) := by decide +kernel
theorem dX8_noBlot_6 : decode cX8_noBlot 6 = .ok (.iload_n 2, 1) := by decide +kernel
theorem dX8_noBlot_7 : decode cX8_noBlot 7 = .ok (.ifCond .eq 5, 3) := by decide +kernel
theorem dX8_noBlot_10 : decode cX8_noBlot 10 = .ok (.iload_n 2, 1) := by decide +kernel
theorem dX8_noBlot_11 : decode cX8_noBlot 11 = .ok (.ireturn, 1) := by decide +kernel
theorem dX8_noBlot_12 : decode cX8_noBlot 12 = .ok (.aload_n 0, 1) := by decide +kernel
theorem dX8_noBlot_13 : decode cX8_noBlot 13 = .ok (.getfield 81, 3) := by decide +kernel
theorem dX8_noBlot_16 : decode cX8_noBlot 16 = .ok (.iload_n 1, 1) := by decide +kernel
theorem dX8_noBlot_17 : decode cX8_noBlot 17 = .ok (.iaload, 1) := by decide +kernel
theorem dX8_noBlot_18 : decode cX8_noBlot 18 = .ok (.i2l, 1) := by decide +kernel
theorem dX8_noBlot_19 : decode cX8_noBlot 19 = .ok (.lconst 1, 1) := by decide +kernel
theorem dX8_noBlot_20 : decode cX8_noBlot 20 = .ok (.ldc2_w 423, 3) := by decide +kernel
theorem dX8_noBlot_23 : decode cX8_noBlot 23 = .ok (.invokestatic 154, 3) := by decide +kernel
theorem dX8_noBlot_26 : decode cX8_noBlot 26 = .ok (.ifCond .ne 6, 3) := by decide +kernel
theorem dX8_noBlot_29 : decode cX8_noBlot 29 = .ok (.bipush (-4), 2) := by decide +kernel
theorem dX8_noBlot_31 : decode cX8_noBlot 31 = .ok (.ireturn, 1) := by decide +kernel
theorem dX8_noBlot_32 : decode cX8_noBlot 32 = .ok (.iconst 0, 1) := by decide +kernel
theorem dX8_noBlot_33 : decode cX8_noBlot 33 = .ok (.istore_n 3, 1) := by decide +kernel
theorem dX8_noBlot_34 : decode cX8_noBlot 34 = .ok (.iload_n 3, 1) := by decide +kernel
theorem dX8_noBlot_35 : decode cX8_noBlot 35 = .ok (.aload_n 0, 1) := by decide +kernel
theorem dX8_noBlot_36 : decode cX8_noBlot 36 = .ok (.getfield 81, 3) := by decide +kernel
theorem dX8_noBlot_39 : decode cX8_noBlot 39 = .ok (.iload_n 1, 1) := by decide +kernel
theorem dX8_noBlot_40 : decode cX8_noBlot 40 = .ok (.iaload, 1) := by decide +kernel
theorem dX8_noBlot_41 : decode cX8_noBlot 41 = .ok (.if_icmp .ge 33, 3) := by decide +kernel
theorem dX8_noBlot_44 : decode cX8_noBlot 44 = .ok (.aload_n 0, 1) := by decide +kernel
theorem dX8_noBlot_45 : decode cX8_noBlot 45 = .ok (.getfield 84, 3) := by decide +kernel
theorem dX8_noBlot_48 : decode cX8_noBlot 48 = .ok (.bipush 40, 2) := by decide +kernel
theorem dX8_noBlot_50 : decode cX8_noBlot 50 = .ok (.iload_n 1, 1) := by decide +kernel
theorem dX8_noBlot_51 : decode cX8_noBlot 51 = .ok (.imul, 1) := by decide +kernel
theorem dX8_noBlot_52 : decode cX8_noBlot 52 = .ok (.iload_n 3, 1) := by decide +kernel
theorem dX8_noBlot_53 : decode cX8_noBlot 53 = .ok (.iadd, 1) := by decide +kernel
theorem dX8_noBlot_54 : decode cX8_noBlot 54 = .ok (.laload, 1) := by decide +kernel
theorem dX8_noBlot_55 : decode cX8_noBlot 55 = .ok (.lconst 0, 1) := by decide +kernel
theorem dX8_noBlot_56 : decode cX8_noBlot 56 = .ok (.ldc2_w 425, 3) := by decide +kernel
theorem dX8_noBlot_59 : decode cX8_noBlot 59 = .ok (.invokestatic 154, 3) := by decide +kernel
theorem dX8_noBlot_62 : decode cX8_noBlot 62 = .ok (.ifCond .ne 6, 3) := by decide +kernel
theorem dX8_noBlot_65 : decode cX8_noBlot 65 = .ok (.bipush (-3), 2) := by decide +kernel
theorem dX8_noBlot_67 : decode cX8_noBlot 67 = .ok (.ireturn, 1) := by decide +kernel
theorem dX8_noBlot_68 : decode cX8_noBlot 68 = .ok (.iinc 3 1, 3) := by decide +kernel
theorem dX8_noBlot_71 : decode cX8_noBlot 71 = .ok (.goto (-37), 3) := by decide +kernel
theorem dX8_noBlot_74 : decode cX8_noBlot 74 = .ok (.iconst 0, 1) := by decide +kernel
theorem dX8_noBlot_75 : decode cX8_noBlot 75 = .ok (.ireturn, 1) := by decide +kernel
def f_X8_noBlot_34 : Nat → Int32 → Int32 → zS → Option (Int32 × zS)
  | 0, _, _, _ => none
  | n + 1, v1, v3, s =>
    (zr_i s 98 v1).bind fun x1 =>
    if x1 ≤ v3 then
    (some ((0 : Int32), s))
    else
    (zr_l s 99 (((nI 40) * v1) + v3)).bind fun x2 =>
    zbd (f_X8_within x2 (0 : Int64) (17 : Int64) s) fun r3 s4 =>
    if ¬ r3 = 0 then
    (zb (v3 + (1 : Int32)) fun x5 =>
    f_X8_noBlot_34 n v1 x5 s4)
    else
    some ((-3 : Int32), s4)
set_option maxRecDepth 20000 in
theorem b_X8_noBlot_34 {X : zX} (hX : zx_ok X cX8_noBlot RX8 4) (hT : zx_rt X (some .int) (zR 2 46)) : ∀ (n : Nat) (v1 : Int32) (v3 : Int32) (s : zS), zV X (zq X zrI) 4 34 [(0, .ref (zx_ad X 76)), (1, .int v1), (3, .int v3)] [] s (f_X8_noBlot_34 n v1 v3 s) := by
  intro n
  induction n with
  | zero => intro v1 v3 s; exact zv_none
  | succ n ih =>
    intro v1 v3 s
    rw [f_X8_noBlot_34]
    refine zv_iload_n hX dX8_noBlot_34 2 rfl ?_
    refine zv_aload_n hX dX8_noBlot_35 0 rfl ?_
    refine zv_geta hX wf_X8_81 wc_8 zd_76 zj_76_39 c9_8 zr_76_39 (by decide) dX8_noBlot_36 ?_
    refine zv_iload_n hX dX8_noBlot_39 1 rfl ?_
    refine zv_iald hX dX8_noBlot_40 (fun x1 => ?_)
    refine zv_icmp_ge (tgt := 74) hX dX8_noBlot_41 rfl ?_ ?_
    · refine zv_iconst (v := (0 : Int32)) hX dX8_noBlot_74 zi_i_0 ?_
      exact zv_ireti hX hT dX8_noBlot_75
    · refine zv_aload_n hX dX8_noBlot_44 0 rfl ?_
      refine zv_geta hX wf_X8_84 wc_8 zd_76 zj_76_40 c9_8 zr_76_40 (by decide) dX8_noBlot_45 ?_
      refine zv_bipush (v := (nI 40)) hX dX8_noBlot_48 zi_b_40 ?_
      refine zv_iload_n hX dX8_noBlot_50 1 rfl ?_
      refine zv_imul hX dX8_noBlot_51 ?_
      refine zv_iload_n hX dX8_noBlot_52 2 rfl ?_
      refine zv_iadd hX dX8_noBlot_53 ?_
      refine zv_lald hX dX8_noBlot_54 (fun x2 => ?_)
      refine zv_lconst (v := (0 : Int64)) hX dX8_noBlot_55 zi_l_0 ?_
      refine zv_ldc2 hX wn_X8_425 dX8_noBlot_56 ?_
      refine zv_cSI [.long x2, .long (0 : Int64), .long (17 : Int64)] (rest := []) hX hT.2.2.2.2 (c_X8_within (zx_Y X) x2 (0 : Int64) (17 : Int64) s) wv_X8_within wm_X8_154 rfl (Nat.le_of_ble_eq_true rfl) (Nat.le_of_ble_eq_true rfl) rfl (Nat.le_of_ble_eq_true rfl) dX8_noBlot_59 (fun r3 s4 => ?_)
      refine zv_if_ne (tgt := 68) hX dX8_noBlot_62 rfl ?_ ?_
      · refine zv_iincB (lw := fun x5 => [(3, .int x5), (0, .ref (zx_ad X 76)), (1, .int v1)]) hX dX8_noBlot_68 2 rfl zi_i_1 (by decide) (fun _ => rfl) (fun x5 => ?_)
        refine zv_goto (tgt := 34) hX dX8_noBlot_71 rfl ?_
        exact zv_sub [1, 2, 0] rfl (ih v1 x5 s4)
      · refine zv_bipush (v := (-3 : Int32)) hX dX8_noBlot_65 zi_b_m3 ?_
        exact zv_ireti hX hT dX8_noBlot_67
def f_X8_noBlot (v1 : Int32) (s : zS) : Option (Int32 × zS) :=
  zbd (f_X8_noTray v1 s) fun r6 s7 =>
  if r6 = 0 then
  ((zr_i s7 98 v1).bind fun x8 =>
  zbd (f_X8_within (x8.toInt64) (1 : Int64) (18 : Int64) s7) fun r9 s10 =>
  if ¬ r9 = 0 then
  (f_X8_noBlot_34 zFU v1 (0 : Int32) s10)
  else
  some ((-4 : Int32), s10))
  else
  some (r6, s7)
set_option maxRecDepth 20000 in
theorem c_X8_noBlot (Y : zG) (v1 : Int32) (s : zS) : zM Y yX8_noBlot cX8_noBlot 4 (some .int) (zR 2 46) [.ref (zy_a Y 76), .int v1] s zrI (f_X8_noBlot v1 s) := by
  refine zm_start (by decide +kernel) (Nat.le_of_ble_eq_true rfl) ?_
  intro X hY hT hX
  subst hY
  have hX : zx_ok X cX8_noBlot RX8 4 := hX
  show zV X (zq X zrI) 4 0 [(0, .ref (zx_ad X 76)), (1, .int v1)] [] s _
  unfold f_X8_noBlot
  refine zv_aload_n hX dX8_noBlot_0 0 rfl ?_
  refine zv_iload_n hX dX8_noBlot_1 1 rfl ?_
  refine zv_cVI [.int v1] (rest := []) hX hT.2.2.2.2 (c_X8_noTray (zx_Y X) v1 s) wv_X8_noTray c9_8 zd_76 wm_X8_352 rfl (Nat.le_of_ble_eq_true rfl) (Nat.le_of_ble_eq_true rfl) rfl (Nat.le_of_ble_eq_true rfl) dX8_noBlot_2 (fun r6 s7 => ?_)
  refine zv_istore_n (lv' := [(2, .int r6), (0, .ref (zx_ad X 76)), (1, .int v1)]) hX dX8_noBlot_5 (by decide) rfl ?_
  refine zv_iload_n hX dX8_noBlot_6 0 rfl ?_
  refine zv_if_eq (tgt := 12) hX dX8_noBlot_7 rfl ?_ ?_
  · refine zv_aload_n hX dX8_noBlot_12 1 rfl ?_
    refine zv_geta hX wf_X8_81 wc_8 zd_76 zj_76_39 c9_8 zr_76_39 (by decide) dX8_noBlot_13 ?_
    refine zv_iload_n hX dX8_noBlot_16 2 rfl ?_
    refine zv_iald hX dX8_noBlot_17 (fun x8 => ?_)
    refine zv_i2l hX dX8_noBlot_18 ?_
    refine zv_lconst (v := (1 : Int64)) hX dX8_noBlot_19 zi_l_1 ?_
    refine zv_ldc2 hX wn_X8_423 dX8_noBlot_20 ?_
    refine zv_cSI [.long (x8.toInt64), .long (1 : Int64), .long (18 : Int64)] (rest := []) hX hT.2.2.2.2 (c_X8_within (zx_Y X) (x8.toInt64) (1 : Int64) (18 : Int64) s7) wv_X8_within wm_X8_154 rfl (Nat.le_of_ble_eq_true rfl) (Nat.le_of_ble_eq_true rfl) rfl (Nat.le_of_ble_eq_true rfl) dX8_noBlot_23 (fun r9 s10 => ?_)
    refine zv_if_ne (tgt := 32) hX dX8_noBlot_26 rfl ?_ ?_
    · refine zv_iconst (v := (0 : Int32)) hX dX8_noBlot_32 zi_i_0 ?_
      refine zv_istore_n (lv' := [(3, .int (0 : Int32)), (2, .int r6), (0, .ref (zx_ad X 76)), (1, .int v1)]) hX dX8_noBlot_33 (by decide) rfl ?_
      exact zv_sub [2, 3, 0] rfl (b_X8_noBlot_34 hX hT zFU v1 (0 : Int32) s10)
    · refine zv_bipush (v := (-4 : Int32)) hX dX8_noBlot_29 zi_b_m4 ?_
      exact zv_ireti hX hT dX8_noBlot_31
  · refine zv_iload_n hX dX8_noBlot_10 0 rfl ?_
    exact zv_ireti hX hT dX8_noBlot_11
theorem dX8_blot_0 : decode cX8_blot 0 = .ok (.aload_n 0, 1) := by decide +kernel
theorem dX8_blot_1 : decode cX8_blot 1 = .ok (.iconst 0, 1) := by decide +kernel
theorem dX8_blot_2 : decode cX8_blot 2 = .ok (.putfield 1, 3) := by decide +kernel
theorem dX8_blot_5 : decode cX8_blot 5 = .ok (.aload_n 0, 1) := by decide +kernel
theorem dX8_blot_6 : decode cX8_blot 6 = .ok (.iload_n 1, 1) := by decide +kernel
theorem dX8_blot_7 : decode cX8_blot 7 = .ok (.invokevirtual 429, 3) := by decide +kernel
theorem dX8_blot_10 : decode cX8_blot 10 = .ok (.istore_n 2, 1) := by decide +kernel
theorem dX8_blot_11 : decode cX8_blot 11 = .ok (.iload_n 2, 1) := by decide +kernel
theorem dX8_blot_12 : decode cX8_blot 12 = .ok (.ifCond .eq 7, 3) := by decide +kernel
theorem dX8_blot_15 : decode cX8_blot 15 = .ok (.iload_n 2, 1) := by decide +kernel
theorem dX8_blot_16 : decode cX8_blot 16 = .ok (.goto 8, 3) := by decide +kernel
theorem dX8_blot_19 : decode cX8_blot 19 = .ok (.aload_n 0, 1) := by decide +kernel
theorem dX8_blot_20 : decode cX8_blot 20 = .ok (.iload_n 1, 1) := by decide +kernel
theorem dX8_blot_21 : decode cX8_blot 21 = .ok (.invokevirtual 432, 3) := by decide +kernel
theorem dX8_blot_24 : decode cX8_blot 24 = .ok (.ireturn, 1) := by decide +kernel
def f_X8_blot_24 (w0 : Int32) (s : zS) : Option (Int32 × zS) :=
  some (w0, s)
set_option maxRecDepth 20000 in
theorem b_X8_blot_24 {X : zX} (hX : zx_ok X cX8_blot RX8 3) (hT : zx_rt X (some .int) (zR 3 69)) : ∀ (w0 : Int32) (s : zS), zV X (zq X zrI) 3 24 [] [.int w0] s (f_X8_blot_24 w0 s) := by
  intro w0 s
  unfold f_X8_blot_24
  exact zv_ireti hX hT dX8_blot_24
def f_X8_blot (v1 : Int32) (s : zS) : Option (Int32 × zS) :=
  zb (zs_i s 76 0 (0 : Int32)) fun s1 =>
  zbd (f_X8_noBlot v1 s1) fun r2 s3 =>
  if r2 = 0 then
  (zbd (f_X8_blotSet v1 s3) fun r4 s5 =>
  f_X8_blot_24 r4 s5)
  else
  f_X8_blot_24 r2 s3
set_option maxRecDepth 20000 in
theorem c_X8_blot (Y : zG) (v1 : Int32) (s : zS) : zM Y yX8_blot cX8_blot 3 (some .int) (zR 3 69) [.ref (zy_a Y 76), .int v1] s zrI (f_X8_blot v1 s) := by
  refine zm_start (by decide +kernel) (Nat.le_of_ble_eq_true rfl) ?_
  intro X hY hT hX
  subst hY
  have hX : zx_ok X cX8_blot RX8 3 := hX
  show zV X (zq X zrI) 3 0 [(0, .ref (zx_ad X 76)), (1, .int v1)] [] s _
  unfold f_X8_blot
  refine zv_aload_n hX dX8_blot_0 0 rfl ?_
  refine zv_iconst (v := (0 : Int32)) hX dX8_blot_1 zi_i_0 ?_
  refine zv_puti hX wf_X8_1 wc_8 wk_8_0 zd_76 zj_76_0 c9_8 zr_76_0 dX8_blot_2 (fun s1 => ?_)
  refine zv_aload_n hX dX8_blot_5 0 rfl ?_
  refine zv_iload_n hX dX8_blot_6 1 rfl ?_
  refine zv_cVI [.int v1] (rest := []) hX hT.2.2.2.2 (c_X8_noBlot (zx_Y X) v1 s1) wv_X8_noBlot c9_8 zd_76 wm_X8_429 rfl (Nat.le_of_ble_eq_true rfl) (Nat.le_of_ble_eq_true rfl) rfl (Nat.le_of_ble_eq_true rfl) dX8_blot_7 (fun r2 s3 => ?_)
  refine zv_istore_n (lv' := [(2, .int r2), (0, .ref (zx_ad X 76)), (1, .int v1)]) hX dX8_blot_10 (by decide) rfl ?_
  refine zv_iload_n hX dX8_blot_11 0 rfl ?_
  refine zv_if_eq (tgt := 19) hX dX8_blot_12 rfl ?_ ?_
  · refine zv_aload_n hX dX8_blot_19 1 rfl ?_
    refine zv_iload_n hX dX8_blot_20 2 rfl ?_
    refine zv_cVI [.int v1] (rest := []) hX hT.2.2.2.2 (c_X8_blotSet (zx_Y X) v1 s3) wv_X8_blotSet c9_8 zd_76 wm_X8_432 rfl (Nat.le_of_ble_eq_true rfl) (Nat.le_of_ble_eq_true rfl) rfl (Nat.le_of_ble_eq_true rfl) dX8_blot_21 (fun r4 s5 => ?_)
    exact zv_sub [] rfl (b_X8_blot_24 hX hT r4 s5)
  · refine zv_iload_n hX dX8_blot_15 0 rfl ?_
    refine zv_goto (tgt := 24) hX dX8_blot_16 rfl ?_
    exact zv_sub [] rfl (b_X8_blot_24 hX hT r2 s3)
theorem dX8_breakingAt_0 : decode cX8_breakingAt 0 = .ok (.iconst 0, 1) := by decide +kernel
theorem dX8_breakingAt_1 : decode cX8_breakingAt 1 = .ok (.istore_n 2, 1) := by decide +kernel
theorem dX8_breakingAt_2 : decode cX8_breakingAt 2 = .ok (.iconst 0, 1) := by decide +kernel
theorem dX8_breakingAt_3 : decode cX8_breakingAt 3 = .ok (.istore_n 3, 1) := by decide +kernel
theorem dX8_breakingAt_4 : decode cX8_breakingAt 4 = .ok (.iload_n 3, 1) := by decide +kernel
theorem dX8_breakingAt_5 : decode cX8_breakingAt 5 = .ok (.aload_n 0, 1) := by decide +kernel
theorem dX8_breakingAt_6 : decode cX8_breakingAt 6 = .ok (.getfield 13, 3) := by decide +kernel
theorem dX8_breakingAt_9 : decode cX8_breakingAt 9 = .ok (.iconst 1, 1) := by decide +kernel
theorem dX8_breakingAt_10 : decode cX8_breakingAt 10 = .ok (.iaload, 1) := by decide +kernel
theorem dX8_breakingAt_11 : decode cX8_breakingAt 11 = .ok (.if_icmp .ge 60, 3) := by decide +kernel
theorem dX8_breakingAt_14 : decode cX8_breakingAt 14 = .ok (.iload_n 3, 1) := by decide +kernel
theorem dX8_breakingAt_15 : decode cX8_breakingAt 15 = .ok (.iconst 1, 1) := by decide +kernel
theorem dX8_breakingAt_16 : decode cX8_breakingAt 16 = .ok (.iadd, 1) := by decide +kernel
theorem dX8_breakingAt_17 : decode cX8_breakingAt 17 = .ok (.istore 4, 2) := by decide +kernel
theorem dX8_breakingAt_19 : decode cX8_breakingAt 19 = .ok (.iload 4, 2) := by decide +kernel
theorem dX8_breakingAt_21 : decode cX8_breakingAt 21 = .ok (.aload_n 0, 1) := by decide +kernel
theorem dX8_breakingAt_22 : decode cX8_breakingAt 22 = .ok (.getfield 13, 3) := by decide +kernel
theorem dX8_breakingAt_25 : decode cX8_breakingAt 25 = .ok (.iconst 1, 1) := by decide +kernel
theorem dX8_breakingAt_26 : decode cX8_breakingAt 26 = .ok (.iaload, 1) := by decide +kernel
theorem dX8_breakingAt_27 : decode cX8_breakingAt 27 = .ok (.if_icmp .ge 38, 3) := by decide +kernel
theorem dX8_breakingAt_30 : decode cX8_breakingAt 30 = .ok (.aload_n 0, 1) := by decide +kernel
theorem dX8_breakingAt_31 : decode cX8_breakingAt 31 = .ok (.iload_n 3, 1) := by decide +kernel
theorem dX8_breakingAt_32 : decode cX8_breakingAt 32 = .ok (.iload 4, 2) := by decide +kernel
theorem dX8_breakingAt_34 : decode cX8_breakingAt 34 = .ok (.invokevirtual 376, 3) := by decide +kernel
theorem dX8_breakingAt_37 : decode cX8_breakingAt 37 = .ok (.ifCond .ne 6, 3) := by decide +kernel
theorem dX8_breakingAt_40 : decode cX8_breakingAt 40 = .ok (.goto 19, 3) := by decide +kernel
theorem dX8_breakingAt_43 : decode cX8_breakingAt 43 = .ok (.iload_n 2, 1) := by decide +kernel
theorem dX8_breakingAt_44 : decode cX8_breakingAt 44 = .ok (.iload_n 1, 1) := by decide +kernel
theorem dX8_breakingAt_45 : decode cX8_breakingAt 45 = .ok (.if_icmp .ne 11, 3) := by decide +kernel
theorem dX8_breakingAt_48 : decode cX8_breakingAt 48 = .ok (.bipush 10, 2) := by decide +kernel
theorem dX8_breakingAt_50 : decode cX8_breakingAt 50 = .ok (.iload_n 3, 1) := by decide +kernel
theorem dX8_breakingAt_51 : decode cX8_breakingAt 51 = .ok (.imul, 1) := by decide +kernel
theorem dX8_breakingAt_52 : decode cX8_breakingAt 52 = .ok (.iload 4, 2) := by decide +kernel
theorem dX8_breakingAt_54 : decode cX8_breakingAt 54 = .ok (.iadd, 1) := by decide +kernel
theorem dX8_breakingAt_55 : decode cX8_breakingAt 55 = .ok (.ireturn, 1) := by decide +kernel
theorem dX8_breakingAt_56 : decode cX8_breakingAt 56 = .ok (.iinc 2 1, 3) := by decide +kernel
theorem dX8_breakingAt_59 : decode cX8_breakingAt 59 = .ok (.iinc 4 1, 3) := by decide +kernel
theorem dX8_breakingAt_62 : decode cX8_breakingAt 62 = .ok (.goto (-43), 3) := by decide +kernel
theorem dX8_breakingAt_65 : decode cX8_breakingAt 65 = .ok (.iinc 3 1, 3) := by decide +kernel
theorem dX8_breakingAt_68 : decode cX8_breakingAt 68 = .ok (.goto (-64), 3) := by decide +kernel
theorem dX8_breakingAt_71 : decode cX8_breakingAt 71 = .ok (.iload_n 1, 1) := by decide +kernel
theorem dX8_breakingAt_72 : decode cX8_breakingAt 72 = .ok (.ifCond .ge 7, 3) := by decide +kernel
theorem dX8_breakingAt_75 : decode cX8_breakingAt 75 = .ok (.iload_n 2, 1) := by decide +kernel
theorem dX8_breakingAt_76 : decode cX8_breakingAt 76 = .ok (.goto 4, 3) := by decide +kernel
theorem dX8_breakingAt_79 : decode cX8_breakingAt 79 = .ok (.iconst (-1), 1) := by decide +kernel
theorem dX8_breakingAt_80 : decode cX8_breakingAt 80 = .ok (.ireturn, 1) := by decide +kernel
def f_X8_breakingAt_80 (w0 : Int32) (s : zS) : Option (Int32 × zS) :=
  some (w0, s)
set_option maxRecDepth 20000 in
theorem b_X8_breakingAt_80 {X : zX} (hX : zx_ok X cX8_breakingAt RX8 5) (hT : zx_rt X (some .int) (zR 2 46)) : ∀ (w0 : Int32) (s : zS), zV X (zq X zrI) 5 80 [] [.int w0] s (f_X8_breakingAt_80 w0 s) := by
  intro w0 s
  unfold f_X8_breakingAt_80
  exact zv_ireti hX hT dX8_breakingAt_80
def f_X8_breakingAt_59 (kb_4 : Int32 → Int32 → Int32 → zS → Option (Int32 × zS)) (kb_19 : Int32 → Int32 → Int32 → Int32 → zS → Option (Int32 × zS)) (v1 : Int32) (v2 : Int32) (v3 : Int32) (v4 : Int32) (s : zS) : Option (Int32 × zS) :=
  zb (v4 + (1 : Int32)) fun x1 =>
  kb_19 v1 v2 v3 x1 s
set_option maxRecDepth 20000 in
theorem b_X8_breakingAt_59 {X : zX} {kb_4 : Int32 → Int32 → Int32 → zS → Option (Int32 × zS)} {kb_19 : Int32 → Int32 → Int32 → Int32 → zS → Option (Int32 × zS)} (hX : zx_ok X cX8_breakingAt RX8 5) (hT : zx_rt X (some .int) (zR 2 46)) (hk_4 : ∀ (v1 : Int32) (v2 : Int32) (v3 : Int32) (s : zS), zV X (zq X zrI) 5 4 [(0, .ref (zx_ad X 76)), (1, .int v1), (2, .int v2), (3, .int v3)] [] s (kb_4 v1 v2 v3 s)) (hk_19 : ∀ (v1 : Int32) (v2 : Int32) (v3 : Int32) (v4 : Int32) (s : zS), zV X (zq X zrI) 5 19 [(0, .ref (zx_ad X 76)), (1, .int v1), (2, .int v2), (3, .int v3), (4, .int v4)] [] s (kb_19 v1 v2 v3 v4 s)) : ∀ (v1 : Int32) (v2 : Int32) (v3 : Int32) (v4 : Int32) (s : zS), zV X (zq X zrI) 5 59 [(0, .ref (zx_ad X 76)), (1, .int v1), (2, .int v2), (3, .int v3), (4, .int v4)] [] s (f_X8_breakingAt_59 kb_4 kb_19 v1 v2 v3 v4 s) := by
  intro v1 v2 v3 v4 s
  unfold f_X8_breakingAt_59
  refine zv_iincB (lw := fun x1 => [(4, .int x1), (0, .ref (zx_ad X 76)), (1, .int v1), (2, .int v2), (3, .int v3)]) hX dX8_breakingAt_59 4 rfl zi_i_1 (by decide) (fun _ => rfl) (fun x1 => ?_)
  refine zv_goto (tgt := 19) hX dX8_breakingAt_62 rfl ?_
  exact zv_sub [1, 2, 3, 4, 0] rfl (hk_19 v1 v2 v3 x1 s)
def f_X8_breakingAt_19 (kb_4 : Int32 → Int32 → Int32 → zS → Option (Int32 × zS)) : Nat → Int32 → Int32 → Int32 → Int32 → zS → Option (Int32 × zS)
  | 0, _, _, _, _, _ => none
  | n + 1, v1, v2, v3, v4, s =>
    (zr_i s 77 (1 : Int32)).bind fun x2 =>
    if x2 ≤ v4 then
    (zb (v3 + (1 : Int32)) fun x3 =>
    kb_4 v1 v2 x3 s)
    else
    zbd (f_X8_breaksIt v3 v4 s) fun r4 s5 =>
    if ¬ r4 = 0 then
    (if ¬ v2 = v1 then
    (zb (v2 + (1 : Int32)) fun x6 =>
    f_X8_breakingAt_59 kb_4 (f_X8_breakingAt_19 kb_4 n) v1 x6 v3 v4 s5)
    else
    some (((nI 10) * v3) + v4, s5))
    else
    f_X8_breakingAt_59 kb_4 (f_X8_breakingAt_19 kb_4 n) v1 v2 v3 v4 s5
set_option maxRecDepth 20000 in
theorem b_X8_breakingAt_19 {X : zX} {kb_4 : Int32 → Int32 → Int32 → zS → Option (Int32 × zS)} (hX : zx_ok X cX8_breakingAt RX8 5) (hT : zx_rt X (some .int) (zR 2 46)) (hk_4 : ∀ (v1 : Int32) (v2 : Int32) (v3 : Int32) (s : zS), zV X (zq X zrI) 5 4 [(0, .ref (zx_ad X 76)), (1, .int v1), (2, .int v2), (3, .int v3)] [] s (kb_4 v1 v2 v3 s)) : ∀ (n : Nat) (v1 : Int32) (v2 : Int32) (v3 : Int32) (v4 : Int32) (s : zS), zV X (zq X zrI) 5 19 [(0, .ref (zx_ad X 76)), (1, .int v1), (2, .int v2), (3, .int v3), (4, .int v4)] [] s (f_X8_breakingAt_19 kb_4 n v1 v2 v3 v4 s) := by
  intro n
  induction n with
  | zero => intro v1 v2 v3 v4 s; exact zv_none
  | succ n ih =>
    intro v1 v2 v3 v4 s
    rw [f_X8_breakingAt_19]
    refine zv_iload hX dX8_breakingAt_19 4 rfl ?_
    refine zv_aload_n hX dX8_breakingAt_21 0 rfl ?_
    refine zv_geta hX wf_X8_13 wc_8 zd_76 zj_76_1 c9_8 zr_76_1 (by decide) dX8_breakingAt_22 ?_
    refine zv_iconst (v := (1 : Int32)) hX dX8_breakingAt_25 zi_i_1 ?_
    refine zv_iald hX dX8_breakingAt_26 (fun x2 => ?_)
    refine zv_icmp_ge (tgt := 65) hX dX8_breakingAt_27 rfl ?_ ?_
    · refine zv_iincB (lw := fun x3 => [(3, .int x3), (0, .ref (zx_ad X 76)), (1, .int v1), (2, .int v2), (4, .int v4)]) hX dX8_breakingAt_65 3 rfl zi_i_1 (by decide) (fun _ => rfl) (fun x3 => ?_)
      refine zv_goto (tgt := 4) hX dX8_breakingAt_68 rfl ?_
      exact zv_sub [1, 2, 3, 0] rfl (hk_4 v1 v2 x3 s)
    · refine zv_aload_n hX dX8_breakingAt_30 0 rfl ?_
      refine zv_iload_n hX dX8_breakingAt_31 3 rfl ?_
      refine zv_iload hX dX8_breakingAt_32 4 rfl ?_
      refine zv_cVI [.int v3, .int v4] (rest := []) hX hT.2.2.2.2 (c_X8_breaksIt (zx_Y X) v3 v4 s) wv_X8_breaksIt c9_8 zd_76 wm_X8_376 rfl (Nat.le_of_ble_eq_true rfl) (Nat.le_of_ble_eq_true rfl) rfl (Nat.le_of_ble_eq_true rfl) dX8_breakingAt_34 (fun r4 s5 => ?_)
      refine zv_if_ne (tgt := 43) hX dX8_breakingAt_37 rfl ?_ ?_
      · refine zv_iload_n hX dX8_breakingAt_43 2 rfl ?_
        refine zv_iload_n hX dX8_breakingAt_44 1 rfl ?_
        refine zv_icmp_ne (tgt := 56) hX dX8_breakingAt_45 rfl ?_ ?_
        · refine zv_iincB (lw := fun x6 => [(2, .int x6), (0, .ref (zx_ad X 76)), (1, .int v1), (3, .int v3), (4, .int v4)]) hX dX8_breakingAt_56 2 rfl zi_i_1 (by decide) (fun _ => rfl) (fun x6 => ?_)
          exact zv_sub [1, 2, 0, 3, 4] rfl (b_X8_breakingAt_59 hX hT hk_4 ih v1 x6 v3 v4 s5)
        · refine zv_bipush (v := (nI 10)) hX dX8_breakingAt_48 zi_b_10 ?_
          refine zv_iload_n hX dX8_breakingAt_50 3 rfl ?_
          refine zv_imul hX dX8_breakingAt_51 ?_
          refine zv_iload hX dX8_breakingAt_52 4 rfl ?_
          refine zv_iadd hX dX8_breakingAt_54 ?_
          exact zv_ireti hX hT dX8_breakingAt_55
      · refine zv_goto (tgt := 59) hX dX8_breakingAt_40 rfl ?_
        exact b_X8_breakingAt_59 hX hT hk_4 ih v1 v2 v3 v4 s5
def f_X8_breakingAt_4 : Nat → Int32 → Int32 → Int32 → zS → Option (Int32 × zS)
  | 0, _, _, _, _ => none
  | n + 1, v1, v2, v3, s =>
    (zr_i s 77 (1 : Int32)).bind fun x7 =>
    if x7 ≤ v3 then
    (if 0 ≤ v1 then
    (f_X8_breakingAt_80 (-1 : Int32) s)
    else
    f_X8_breakingAt_80 v2 s)
    else
    zb (v3 + (1 : Int32)) fun x8 =>
    f_X8_breakingAt_19 (f_X8_breakingAt_4 n) zFU v1 v2 v3 x8 s
set_option maxRecDepth 20000 in
theorem b_X8_breakingAt_4 {X : zX} (hX : zx_ok X cX8_breakingAt RX8 5) (hT : zx_rt X (some .int) (zR 2 46)) : ∀ (n : Nat) (v1 : Int32) (v2 : Int32) (v3 : Int32) (s : zS), zV X (zq X zrI) 5 4 [(0, .ref (zx_ad X 76)), (1, .int v1), (2, .int v2), (3, .int v3)] [] s (f_X8_breakingAt_4 n v1 v2 v3 s) := by
  intro n
  induction n with
  | zero => intro v1 v2 v3 s; exact zv_none
  | succ n ih =>
    intro v1 v2 v3 s
    rw [f_X8_breakingAt_4]
    refine zv_iload_n hX dX8_breakingAt_4 3 rfl ?_
    refine zv_aload_n hX dX8_breakingAt_5 0 rfl ?_
    refine zv_geta hX wf_X8_13 wc_8 zd_76 zj_76_1 c9_8 zr_76_1 (by decide) dX8_breakingAt_6 ?_
    refine zv_iconst (v := (1 : Int32)) hX dX8_breakingAt_9 zi_i_1 ?_
    refine zv_iald hX dX8_breakingAt_10 (fun x7 => ?_)
    refine zv_icmp_ge (tgt := 71) hX dX8_breakingAt_11 rfl ?_ ?_
    · refine zv_iload_n hX dX8_breakingAt_71 1 rfl ?_
      refine zv_if_ge (tgt := 79) hX dX8_breakingAt_72 rfl ?_ ?_
      · refine zv_iconst (v := (-1 : Int32)) hX dX8_breakingAt_79 zi_i_m1 ?_
        exact zv_sub [] rfl (b_X8_breakingAt_80 hX hT (-1 : Int32) s)
      · refine zv_iload_n hX dX8_breakingAt_75 2 rfl ?_
        refine zv_goto (tgt := 80) hX dX8_breakingAt_76 rfl ?_
        exact zv_sub [] rfl (b_X8_breakingAt_80 hX hT v2 s)
    · refine zv_iload_n hX dX8_breakingAt_14 3 rfl ?_
      refine zv_iconst (v := (1 : Int32)) hX dX8_breakingAt_15 zi_i_1 ?_
      refine zv_iadd hX dX8_breakingAt_16 ?_
      refine zv_istB (lw := fun x8 => [(4, .int x8), (0, .ref (zx_ad X 76)), (1, .int v1), (2, .int v2), (3, .int v3)]) hX dX8_breakingAt_17 (by decide) (fun _ => rfl) (fun x8 => ?_)
      exact zv_sub [1, 2, 3, 4, 0] rfl (b_X8_breakingAt_19 hX hT ih zFU v1 v2 v3 x8 s)
def f_X8_breakingAt (v1 : Int32) (s : zS) : Option (Int32 × zS) :=
  f_X8_breakingAt_4 zFU v1 (0 : Int32) (0 : Int32) s
set_option maxRecDepth 20000 in
theorem c_X8_breakingAt (Y : zG) (v1 : Int32) (s : zS) : zM Y yX8_breakingAt cX8_breakingAt 5 (some .int) (zR 2 46) [.ref (zy_a Y 76), .int v1] s zrI (f_X8_breakingAt v1 s) := by
  refine zm_start (by decide +kernel) (Nat.le_of_ble_eq_true rfl) ?_
  intro X hY hT hX
  subst hY
  have hX : zx_ok X cX8_breakingAt RX8 5 := hX
  show zV X (zq X zrI) 5 0 [(0, .ref (zx_ad X 76)), (1, .int v1)] [] s _
  unfold f_X8_breakingAt
  refine zv_iconst (v := (0 : Int32)) hX dX8_breakingAt_0 zi_i_0 ?_
  refine zv_istore_n (lv' := [(2, .int (0 : Int32)), (0, .ref (zx_ad X 76)), (1, .int v1)]) hX dX8_breakingAt_1 (by decide) rfl ?_
  refine zv_iconst (v := (0 : Int32)) hX dX8_breakingAt_2 zi_i_0 ?_
  refine zv_istore_n (lv' := [(3, .int (0 : Int32)), (2, .int (0 : Int32)), (0, .ref (zx_ad X 76)), (1, .int v1)]) hX dX8_breakingAt_3 (by decide) rfl ?_
  exact zv_sub [2, 3, 1, 0] rfl (b_X8_breakingAt_4 hX hT zFU v1 (0 : Int32) (0 : Int32) s)
theorem dX8_lays_0 : decode cX8_lays 0 = .ok (.aload_n 0, 1) := by decide +kernel
theorem dX8_lays_1 : decode cX8_lays 1 = .ok (.invokevirtual 274, 3) := by decide +kernel
theorem dX8_lays_4 : decode cX8_lays 4 = .ok (.aload_n 0, 1) := by decide +kernel
theorem dX8_lays_5 : decode cX8_lays 5 = .ok (.invokevirtual 277, 3) := by decide +kernel
theorem dX8_lays_8 : decode cX8_lays 8 = .ok (.return_, 1) := by decide +kernel
def f_X8_lays  (s : zS) : Option (Unit × zS) :=
  zbd (f_X8_laysCrossed s) fun _ s1 =>
  zbd (f_X8_laysLiked s1) fun _ s2 =>
  some ((), s2)
set_option maxRecDepth 20000 in
theorem c_X8_lays (Y : zG)  (s : zS) : zM Y yX8_lays cX8_lays 1 none (zR 70 1735) [.ref (zy_a Y 76)] s zrV (f_X8_lays  s) := by
  refine zm_start (by decide +kernel) (Nat.le_of_ble_eq_true rfl) ?_
  intro X hY hT hX
  subst hY
  have hX : zx_ok X cX8_lays RX8 1 := hX
  show zV X (zq X zrV) 1 0 [(0, .ref (zx_ad X 76))] [] s _
  unfold f_X8_lays
  refine zv_aload_n hX dX8_lays_0 0 rfl ?_
  refine zv_cVV [] (rest := []) hX hT.2.2.2.2 (c_X8_laysCrossed (zx_Y X) s) wv_X8_laysCrossed c9_8 zd_76 wm_X8_274 rfl (Nat.le_of_ble_eq_true rfl) (Nat.le_of_ble_eq_true rfl) rfl (Nat.le_of_ble_eq_true rfl) dX8_lays_1 (fun _ s1 => ?_)
  refine zv_aload_n hX dX8_lays_4 0 rfl ?_
  refine zv_cVV [] (rest := []) hX hT.2.2.2.2 (c_X8_laysLiked (zx_Y X) s1) wv_X8_laysLiked c9_8 zd_76 wm_X8_277 rfl (Nat.le_of_ble_eq_true rfl) (Nat.le_of_ble_eq_true rfl) rfl (Nat.le_of_ble_eq_true rfl) dX8_lays_5 (fun _ s2 => ?_)
  exact zv_vret hX hT dX8_lays_8
theorem dX8_laysNow_0 : decode cX8_laysNow 0 = .ok (.aload_n 0, 1) := by decide +kernel
theorem dX8_laysNow_1 : decode cX8_laysNow 1 = .ok (.invokevirtual 284, 3) := by decide +kernel
theorem dX8_laysNow_4 : decode cX8_laysNow 4 = .ok (.iconst 0, 1) := by decide +kernel
theorem dX8_laysNow_5 : decode cX8_laysNow 5 = .ok (.istore_n 1, 1) := by decide +kernel
theorem dX8_laysNow_6 : decode cX8_laysNow 6 = .ok (.iload_n 1, 1) := by decide +kernel
theorem dX8_laysNow_7 : decode cX8_laysNow 7 = .ok (.bipush 7, 2) := by decide +kernel
theorem dX8_laysNow_9 : decode cX8_laysNow 9 = .ok (.if_icmp .ge 24, 3) := by decide +kernel
theorem dX8_laysNow_12 : decode cX8_laysNow 12 = .ok (.aload_n 0, 1) := by decide +kernel
theorem dX8_laysNow_13 : decode cX8_laysNow 13 = .ok (.getfield 60, 3) := by decide +kernel
theorem dX8_laysNow_16 : decode cX8_laysNow 16 = .ok (.iload_n 1, 1) := by decide +kernel
theorem dX8_laysNow_17 : decode cX8_laysNow 17 = .ok (.aload_n 0, 1) := by decide +kernel
theorem dX8_laysNow_18 : decode cX8_laysNow 18 = .ok (.getfield 13, 3) := by decide +kernel
theorem dX8_laysNow_21 : decode cX8_laysNow 21 = .ok (.bipush 22, 2) := by decide +kernel
theorem dX8_laysNow_23 : decode cX8_laysNow 23 = .ok (.iload_n 1, 1) := by decide +kernel
theorem dX8_laysNow_24 : decode cX8_laysNow 24 = .ok (.iadd, 1) := by decide +kernel
theorem dX8_laysNow_25 : decode cX8_laysNow 25 = .ok (.iaload, 1) := by decide +kernel
theorem dX8_laysNow_26 : decode cX8_laysNow 26 = .ok (.iastore, 1) := by decide +kernel
theorem dX8_laysNow_27 : decode cX8_laysNow 27 = .ok (.iinc 1 1, 3) := by decide +kernel
theorem dX8_laysNow_30 : decode cX8_laysNow 30 = .ok (.goto (-24), 3) := by decide +kernel
theorem dX8_laysNow_33 : decode cX8_laysNow 33 = .ok (.return_, 1) := by decide +kernel
def f_X8_laysNow_6 : Nat → Int32 → zS → Option (Unit × zS)
  | 0, _, _ => none
  | n + 1, v1, s =>
    if (nI 7) ≤ v1 then
    (some ((), s))
    else
    (zr_i s 77 ((nI 22) + v1)).bind fun x1 =>
    (zw_i s 91 v1 x1).bind fun s2 =>
    zb (v1 + (1 : Int32)) fun x3 =>
    f_X8_laysNow_6 n x3 s2
set_option maxRecDepth 20000 in
theorem b_X8_laysNow_6 {X : zX} (hX : zx_ok X cX8_laysNow RX8 2) (hT : zx_rt X none (zR 71 1755)) : ∀ (n : Nat) (v1 : Int32) (s : zS), zV X (zq X zrV) 2 6 [(0, .ref (zx_ad X 76)), (1, .int v1)] [] s (f_X8_laysNow_6 n v1 s) := by
  intro n
  induction n with
  | zero => intro v1 s; exact zv_none
  | succ n ih =>
    intro v1 s
    rw [f_X8_laysNow_6]
    refine zv_iload_n hX dX8_laysNow_6 1 rfl ?_
    refine zv_bipush (v := (nI 7)) hX dX8_laysNow_7 zi_b_7 ?_
    refine zv_icmp_ge (tgt := 33) hX dX8_laysNow_9 rfl ?_ ?_
    · exact zv_vret hX hT dX8_laysNow_33
    · refine zv_aload_n hX dX8_laysNow_12 0 rfl ?_
      refine zv_geta hX wf_X8_60 wc_8 zd_76 zj_76_30 c9_8 zr_76_30 (by decide) dX8_laysNow_13 ?_
      refine zv_iload_n hX dX8_laysNow_16 1 rfl ?_
      refine zv_aload_n hX dX8_laysNow_17 0 rfl ?_
      refine zv_geta hX wf_X8_13 wc_8 zd_76 zj_76_1 c9_8 zr_76_1 (by decide) dX8_laysNow_18 ?_
      refine zv_bipush (v := (nI 22)) hX dX8_laysNow_21 zi_b_22 ?_
      refine zv_iload_n hX dX8_laysNow_23 1 rfl ?_
      refine zv_iadd hX dX8_laysNow_24 ?_
      refine zv_iald hX dX8_laysNow_25 (fun x1 => ?_)
      refine zv_iast hX dX8_laysNow_26 (fun s2 => ?_)
      refine zv_iincB (lw := fun x3 => [(1, .int x3), (0, .ref (zx_ad X 76))]) hX dX8_laysNow_27 1 rfl zi_i_1 (by decide) (fun _ => rfl) (fun x3 => ?_)
      refine zv_goto (tgt := 6) hX dX8_laysNow_30 rfl ?_
      exact zv_sub [1, 0] rfl (ih x3 s2)
def f_X8_laysNow  (s : zS) : Option (Unit × zS) :=
  zbd (f_X8_lays s) fun _ s4 =>
  f_X8_laysNow_6 zFU (0 : Int32) s4
set_option maxRecDepth 20000 in
theorem c_X8_laysNow (Y : zG)  (s : zS) : zM Y yX8_laysNow cX8_laysNow 2 none (zR 71 1755) [.ref (zy_a Y 76)] s zrV (f_X8_laysNow  s) := by
  refine zm_start (by decide +kernel) (Nat.le_of_ble_eq_true rfl) ?_
  intro X hY hT hX
  subst hY
  have hX : zx_ok X cX8_laysNow RX8 2 := hX
  show zV X (zq X zrV) 2 0 [(0, .ref (zx_ad X 76))] [] s _
  unfold f_X8_laysNow
  refine zv_aload_n hX dX8_laysNow_0 0 rfl ?_
  refine zv_cVV [] (rest := []) hX hT.2.2.2.2 (c_X8_lays (zx_Y X) s) wv_X8_lays c9_8 zd_76 wm_X8_284 rfl (Nat.le_of_ble_eq_true rfl) (Nat.le_of_ble_eq_true rfl) rfl (Nat.le_of_ble_eq_true rfl) dX8_laysNow_1 (fun _ s4 => ?_)
  refine zv_iconst (v := (0 : Int32)) hX dX8_laysNow_4 zi_i_0 ?_
  refine zv_istore_n (lv' := [(1, .int (0 : Int32)), (0, .ref (zx_ad X 76))]) hX dX8_laysNow_5 (by decide) rfl ?_
  exact zv_sub [1, 0] rfl (b_X8_laysNow_6 hX hT zFU (0 : Int32) s4)
theorem dX8_breaking_0 : decode cX8_breaking 0 = .ok (.aload_n 0, 1) := by decide +kernel
theorem dX8_breaking_1 : decode cX8_breaking 1 = .ok (.iconst 0, 1) := by decide +kernel
theorem dX8_breaking_2 : decode cX8_breaking 2 = .ok (.putfield 1, 3) := by decide +kernel
theorem dX8_breaking_5 : decode cX8_breaking 5 = .ok (.aload_n 0, 1) := by decide +kernel
theorem dX8_breaking_6 : decode cX8_breaking 6 = .ok (.invokevirtual 379, 3) := by decide +kernel
theorem dX8_breaking_9 : decode cX8_breaking 9 = .ok (.aload_n 0, 1) := by decide +kernel
theorem dX8_breaking_10 : decode cX8_breaking 10 = .ok (.iconst 0, 1) := by decide +kernel
theorem dX8_breaking_11 : decode cX8_breaking 11 = .ok (.invokevirtual 388, 3) := by decide +kernel
theorem dX8_breaking_14 : decode cX8_breaking 14 = .ok (.ireturn, 1) := by decide +kernel
def f_X8_breaking  (s : zS) : Option (Int32 × zS) :=
  zb (zs_i s 76 0 (0 : Int32)) fun s1 =>
  zbd (f_X8_laysNow s1) fun _ s2 =>
  zbd (f_X8_breakingAt (0 : Int32) s2) fun r3 s4 =>
  some (r3, s4)
set_option maxRecDepth 20000 in
theorem c_X8_breaking (Y : zG)  (s : zS) : zM Y yX8_breaking cX8_breaking 1 (some .int) (zR 72 1776) [.ref (zy_a Y 76)] s zrI (f_X8_breaking  s) := by
  refine zm_start (by decide +kernel) (Nat.le_of_ble_eq_true rfl) ?_
  intro X hY hT hX
  subst hY
  have hX : zx_ok X cX8_breaking RX8 1 := hX
  show zV X (zq X zrI) 1 0 [(0, .ref (zx_ad X 76))] [] s _
  unfold f_X8_breaking
  refine zv_aload_n hX dX8_breaking_0 0 rfl ?_
  refine zv_iconst (v := (0 : Int32)) hX dX8_breaking_1 zi_i_0 ?_
  refine zv_puti hX wf_X8_1 wc_8 wk_8_0 zd_76 zj_76_0 c9_8 zr_76_0 dX8_breaking_2 (fun s1 => ?_)
  refine zv_aload_n hX dX8_breaking_5 0 rfl ?_
  refine zv_cVV [] (rest := []) hX hT.2.2.2.2 (c_X8_laysNow (zx_Y X) s1) wv_X8_laysNow c9_8 zd_76 wm_X8_379 rfl (Nat.le_of_ble_eq_true rfl) (Nat.le_of_ble_eq_true rfl) rfl (Nat.le_of_ble_eq_true rfl) dX8_breaking_6 (fun _ s2 => ?_)
  refine zv_aload_n hX dX8_breaking_9 0 rfl ?_
  refine zv_iconst (v := (0 : Int32)) hX dX8_breaking_10 zi_i_0 ?_
  refine zv_cVI [.int (0 : Int32)] (rest := []) hX hT.2.2.2.2 (c_X8_breakingAt (zx_Y X) (0 : Int32) s2) wv_X8_breakingAt c9_8 zd_76 wm_X8_388 rfl (Nat.le_of_ble_eq_true rfl) (Nat.le_of_ble_eq_true rfl) rfl (Nat.le_of_ble_eq_true rfl) dX8_breaking_11 (fun r3 s4 => ?_)
  exact zv_ireti hX hT dX8_breaking_14
theorem dX8_breaks_0 : decode cX8_breaks 0 = .ok (.aload_n 0, 1) := by decide +kernel
theorem dX8_breaks_1 : decode cX8_breaks 1 = .ok (.iconst 0, 1) := by decide +kernel
theorem dX8_breaks_2 : decode cX8_breaks 2 = .ok (.putfield 1, 3) := by decide +kernel
theorem dX8_breaks_5 : decode cX8_breaks 5 = .ok (.aload_n 0, 1) := by decide +kernel
theorem dX8_breaks_6 : decode cX8_breaks 6 = .ok (.invokevirtual 379, 3) := by decide +kernel
theorem dX8_breaks_9 : decode cX8_breaks 9 = .ok (.aload_n 0, 1) := by decide +kernel
theorem dX8_breaks_10 : decode cX8_breaks 10 = .ok (.iconst (-1), 1) := by decide +kernel
theorem dX8_breaks_11 : decode cX8_breaks 11 = .ok (.invokevirtual 388, 3) := by decide +kernel
theorem dX8_breaks_14 : decode cX8_breaks 14 = .ok (.ireturn, 1) := by decide +kernel
def f_X8_breaks  (s : zS) : Option (Int32 × zS) :=
  zb (zs_i s 76 0 (0 : Int32)) fun s1 =>
  zbd (f_X8_laysNow s1) fun _ s2 =>
  zbd (f_X8_breakingAt (-1 : Int32) s2) fun r3 s4 =>
  some (r3, s4)
set_option maxRecDepth 20000 in
theorem c_X8_breaks (Y : zG)  (s : zS) : zM Y yX8_breaks cX8_breaks 1 (some .int) (zR 72 1776) [.ref (zy_a Y 76)] s zrI (f_X8_breaks  s) := by
  refine zm_start (by decide +kernel) (Nat.le_of_ble_eq_true rfl) ?_
  intro X hY hT hX
  subst hY
  have hX : zx_ok X cX8_breaks RX8 1 := hX
  show zV X (zq X zrI) 1 0 [(0, .ref (zx_ad X 76))] [] s _
  unfold f_X8_breaks
  refine zv_aload_n hX dX8_breaks_0 0 rfl ?_
  refine zv_iconst (v := (0 : Int32)) hX dX8_breaks_1 zi_i_0 ?_
  refine zv_puti hX wf_X8_1 wc_8 wk_8_0 zd_76 zj_76_0 c9_8 zr_76_0 dX8_breaks_2 (fun s1 => ?_)
  refine zv_aload_n hX dX8_breaks_5 0 rfl ?_
  refine zv_cVV [] (rest := []) hX hT.2.2.2.2 (c_X8_laysNow (zx_Y X) s1) wv_X8_laysNow c9_8 zd_76 wm_X8_379 rfl (Nat.le_of_ble_eq_true rfl) (Nat.le_of_ble_eq_true rfl) rfl (Nat.le_of_ble_eq_true rfl) dX8_breaks_6 (fun _ s2 => ?_)
  refine zv_aload_n hX dX8_breaks_9 0 rfl ?_
  refine zv_iconst (v := (-1 : Int32)) hX dX8_breaks_10 zi_i_m1 ?_
  refine zv_cVI [.int (-1 : Int32)] (rest := []) hX hT.2.2.2.2 (c_X8_breakingAt (zx_Y X) (-1 : Int32) s2) wv_X8_breakingAt c9_8 zd_76 wm_X8_388 rfl (Nat.le_of_ble_eq_true rfl) (Nat.le_of_ble_eq_true rfl) rfl (Nat.le_of_ble_eq_true rfl) dX8_breaks_11 (fun r3 s4 => ?_)
  exact zv_ireti hX hT dX8_breaks_14
