theorem dX8_goesShift_0 : decode cX8_goesShift 0 = .ok (.iload_n 2, 1) := by decide +kernel
theorem dX8_goesShift_1 : decode cX8_goesShift 1 = .ok (.aload_n 0, 1) := by decide +kernel
theorem dX8_goesShift_2 : decode cX8_goesShift 2 = .ok (.getfield 227, 3) := by decide +kernel
theorem dX8_goesShift_5 : decode cX8_goesShift 5 = .ok (.if_icmp .lt 4, 3) := by decide +kernel
theorem dX8_goesShift_8 : decode cX8_goesShift 8 = .ok (.return_, 1) := by decide +kernel
theorem dX8_goesShift_9 : decode cX8_goesShift 9 = .ok (.iload_n 1, 1) := by decide +kernel
theorem dX8_goesShift_10 : decode cX8_goesShift 10 = .ok (.aload_n 0, 1) := by decide +kernel
theorem dX8_goesShift_11 : decode cX8_goesShift 11 = .ok (.getfield 230, 3) := by decide +kernel
theorem dX8_goesShift_14 : decode cX8_goesShift 14 = .ok (.if_icmp .ne 34, 3) := by decide +kernel
theorem dX8_goesShift_17 : decode cX8_goesShift 17 = .ok (.aload_n 0, 1) := by decide +kernel
theorem dX8_goesShift_18 : decode cX8_goesShift 18 = .ok (.iload_n 2, 1) := by decide +kernel
theorem dX8_goesShift_19 : decode cX8_goesShift 19 = .ok (.putfield 227, 3) := by decide +kernel
theorem dX8_goesShift_22 : decode cX8_goesShift 22 = .ok (.iconst 0, 1) := by decide +kernel
theorem dX8_goesShift_23 : decode cX8_goesShift 23 = .ok (.istore_n 3, 1) := by decide +kernel
theorem dX8_goesShift_24 : decode cX8_goesShift 24 = .ok (.iload_n 3, 1) := by decide +kernel
theorem dX8_goesShift_25 : decode cX8_goesShift 25 = .ok (.iconst 4, 1) := by decide +kernel
theorem dX8_goesShift_26 : decode cX8_goesShift 26 = .ok (.if_icmp .ge 21, 3) := by decide +kernel
theorem dX8_goesShift_29 : decode cX8_goesShift 29 = .ok (.aload_n 0, 1) := by decide +kernel
theorem dX8_goesShift_30 : decode cX8_goesShift 30 = .ok (.getfield 39, 3) := by decide +kernel
theorem dX8_goesShift_33 : decode cX8_goesShift 33 = .ok (.iload_n 3, 1) := by decide +kernel
theorem dX8_goesShift_34 : decode cX8_goesShift 34 = .ok (.aload_n 0, 1) := by decide +kernel
theorem dX8_goesShift_35 : decode cX8_goesShift 35 = .ok (.getfield 33, 3) := by decide +kernel
theorem dX8_goesShift_38 : decode cX8_goesShift 38 = .ok (.iload_n 3, 1) := by decide +kernel
theorem dX8_goesShift_39 : decode cX8_goesShift 39 = .ok (.iaload, 1) := by decide +kernel
theorem dX8_goesShift_40 : decode cX8_goesShift 40 = .ok (.iastore, 1) := by decide +kernel
theorem dX8_goesShift_41 : decode cX8_goesShift 41 = .ok (.iinc 3 1, 3) := by decide +kernel
theorem dX8_goesShift_44 : decode cX8_goesShift 44 = .ok (.goto (-20), 3) := by decide +kernel
theorem dX8_goesShift_47 : decode cX8_goesShift 47 = .ok (.return_, 1) := by decide +kernel
theorem dX8_goesShift_48 : decode cX8_goesShift 48 = .ok (.iconst 0, 1) := by decide +kernel
theorem dX8_goesShift_49 : decode cX8_goesShift 49 = .ok (.istore_n 3, 1) := by decide +kernel
theorem dX8_goesShift_50 : decode cX8_goesShift 50 = .ok (.iload_n 3, 1) := by decide +kernel
theorem dX8_goesShift_51 : decode cX8_goesShift 51 = .ok (.bipush 9, 2) := by decide +kernel
theorem dX8_goesShift_53 : decode cX8_goesShift 53 = .ok (.if_icmp .ge 81, 3) := by decide +kernel
theorem dX8_goesShift_56 : decode cX8_goesShift 56 = .ok (.aload_n 0, 1) := by decide +kernel
theorem dX8_goesShift_57 : decode cX8_goesShift 57 = .ok (.getfield 33, 3) := by decide +kernel
theorem dX8_goesShift_60 : decode cX8_goesShift 60 = .ok (.iload_n 1, 1) := by decide +kernel
theorem dX8_goesShift_61 : decode cX8_goesShift 61 = .ok (.iload_n 3, 1) := by decide +kernel
theorem dX8_goesShift_62 : decode cX8_goesShift 62 = .ok (.iastore, 1) := by decide +kernel
theorem dX8_goesShift_63 : decode cX8_goesShift 63 = .ok (.iload_n 2, 1) := by decide +kernel
theorem dX8_goesShift_64 : decode cX8_goesShift 64 = .ok (.istore 4, 2) := by decide +kernel
theorem dX8_goesShift_66 : decode cX8_goesShift 66 = .ok (.iconst 0, 1) := by decide +kernel
theorem dX8_goesShift_67 : decode cX8_goesShift 67 = .ok (.istore 5, 2) := by decide +kernel
theorem dX8_goesShift_69 : decode cX8_goesShift 69 = .ok (.iload 5, 2) := by decide +kernel
theorem dX8_goesShift_71 : decode cX8_goesShift 71 = .ok (.iload_n 1, 1) := by decide +kernel
theorem dX8_goesShift_72 : decode cX8_goesShift 72 = .ok (.if_icmp .ge 47, 3) := by decide +kernel
theorem dX8_goesShift_75 : decode cX8_goesShift 75 = .ok (.iload 4, 2) := by decide +kernel
theorem dX8_goesShift_77 : decode cX8_goesShift 77 = .ok (.aload_n 0, 1) := by decide +kernel
theorem dX8_goesShift_78 : decode cX8_goesShift 78 = .ok (.getfield 36, 3) := by decide +kernel
theorem dX8_goesShift_81 : decode cX8_goesShift 81 = .ok (.bipush 9, 2) := by decide +kernel
theorem dX8_goesShift_83 : decode cX8_goesShift 83 = .ok (.iload 5, 2) := by decide +kernel
theorem dX8_goesShift_85 : decode cX8_goesShift 85 = .ok (.imul, 1) := by decide +kernel
theorem dX8_goesShift_86 : decode cX8_goesShift 86 = .ok (.aload_n 0, 1) := by decide +kernel
theorem dX8_goesShift_87 : decode cX8_goesShift 87 = .ok (.getfield 33, 3) := by decide +kernel
theorem dX8_goesShift_90 : decode cX8_goesShift 90 = .ok (.iload 5, 2) := by decide +kernel
theorem dX8_goesShift_92 : decode cX8_goesShift 92 = .ok (.iaload, 1) := by decide +kernel
theorem dX8_goesShift_93 : decode cX8_goesShift 93 = .ok (.iadd, 1) := by decide +kernel
theorem dX8_goesShift_94 : decode cX8_goesShift 94 = .ok (.iaload, 1) := by decide +kernel
theorem dX8_goesShift_95 : decode cX8_goesShift 95 = .ok (.aload_n 0, 1) := by decide +kernel
theorem dX8_goesShift_96 : decode cX8_goesShift 96 = .ok (.getfield 36, 3) := by decide +kernel
theorem dX8_goesShift_99 : decode cX8_goesShift 99 = .ok (.bipush 9, 2) := by decide +kernel
theorem dX8_goesShift_101 : decode cX8_goesShift 101 = .ok (.iload_n 1, 1) := by decide +kernel
theorem dX8_goesShift_102 : decode cX8_goesShift 102 = .ok (.imul, 1) := by decide +kernel
theorem dX8_goesShift_103 : decode cX8_goesShift 103 = .ok (.iload_n 3, 1) := by decide +kernel
theorem dX8_goesShift_104 : decode cX8_goesShift 104 = .ok (.iadd, 1) := by decide +kernel
theorem dX8_goesShift_105 : decode cX8_goesShift 105 = .ok (.iaload, 1) := by decide +kernel
theorem dX8_goesShift_106 : decode cX8_goesShift 106 = .ok (.iand, 1) := by decide +kernel
theorem dX8_goesShift_107 : decode cX8_goesShift 107 = .ok (.invokestatic 233, 3) := by decide +kernel
theorem dX8_goesShift_110 : decode cX8_goesShift 110 = .ok (.iadd, 1) := by decide +kernel
theorem dX8_goesShift_111 : decode cX8_goesShift 111 = .ok (.istore 4, 2) := by decide +kernel
theorem dX8_goesShift_113 : decode cX8_goesShift 113 = .ok (.iinc 5 1, 3) := by decide +kernel
theorem dX8_goesShift_116 : decode cX8_goesShift 116 = .ok (.goto (-47), 3) := by decide +kernel
theorem dX8_goesShift_119 : decode cX8_goesShift 119 = .ok (.aload_n 0, 1) := by decide +kernel
theorem dX8_goesShift_120 : decode cX8_goesShift 120 = .ok (.iload_n 1, 1) := by decide +kernel
theorem dX8_goesShift_121 : decode cX8_goesShift 121 = .ok (.iconst 1, 1) := by decide +kernel
theorem dX8_goesShift_122 : decode cX8_goesShift 122 = .ok (.iadd, 1) := by decide +kernel
theorem dX8_goesShift_123 : decode cX8_goesShift 123 = .ok (.iload 4, 2) := by decide +kernel
theorem dX8_goesShift_125 : decode cX8_goesShift 125 = .ok (.invokevirtual 236, 3) := by decide +kernel
theorem dX8_goesShift_128 : decode cX8_goesShift 128 = .ok (.iinc 3 1, 3) := by decide +kernel
theorem dX8_goesShift_131 : decode cX8_goesShift 131 = .ok (.goto (-81), 3) := by decide +kernel
theorem dX8_goesShift_134 : decode cX8_goesShift 134 = .ok (.return_, 1) := by decide +kernel
def f_X8_goesShift_69 (q_X8_goesShift : Int32 → Int32 → zS → Option (Unit × zS)) (kb_50 : Int32 → Int32 → Int32 → zS → Option (Unit × zS)) : Nat → Int32 → Int32 → Int32 → Int32 → Int32 → zS → Option (Unit × zS)
  | 0, _, _, _, _, _, _ => none
  | n + 1, v1, v2, v3, v4, v5, s =>
    if v1 ≤ v5 then
    (zbd (q_X8_goesShift (v1 + (1 : Int32)) v4 s) fun _ s1 =>
    zb (v3 + (1 : Int32)) fun x2 =>
    kb_50 v1 v2 x2 s1)
    else
    (zr_i s 82 v5).bind fun x3 =>
    (zr_i s 83 (((nI 9) * v5) + x3)).bind fun x4 =>
    (zr_i s 83 (((nI 9) * v1) + v3)).bind fun x5 =>
    zbd (f_X8_bitsOf (x4 &&& x5) s) fun r6 s7 =>
    zb (v4 + r6) fun x8 =>
    zb (v5 + (1 : Int32)) fun x9 =>
    f_X8_goesShift_69 q_X8_goesShift kb_50 n v1 v2 v3 x8 x9 s7
set_option maxRecDepth 20000 in
theorem b_X8_goesShift_69 {X : zX} {dd : Nat} {q_X8_goesShift : Int32 → Int32 → zS → Option (Unit × zS)} {kb_50 : Int32 → Int32 → Int32 → zS → Option (Unit × zS)} (hX : zx_ok X cX8_goesShift RX8 6) (hT : zx_rt X none (zR (1 + dd + 1) (22 + (dd + 1) * 25))) (hq_X8_goesShift : ∀ (v1 : Int32) (v2 : Int32) (s : zS), zM (zx_Y X) yX8_goesShift cX8_goesShift 6 none (zR (1 + dd) (22 + dd * 25)) [.ref (zx_ad X 76), .int v1, .int v2] s zrV (q_X8_goesShift v1 v2 s)) (hk_50 : ∀ (v1 : Int32) (v2 : Int32) (v3 : Int32) (s : zS), zV X (zq X zrV) 6 50 [(0, .ref (zx_ad X 76)), (1, .int v1), (2, .int v2), (3, .int v3)] [] s (kb_50 v1 v2 v3 s)) : ∀ (n : Nat) (v1 : Int32) (v2 : Int32) (v3 : Int32) (v4 : Int32) (v5 : Int32) (s : zS), zV X (zq X zrV) 6 69 [(0, .ref (zx_ad X 76)), (1, .int v1), (2, .int v2), (3, .int v3), (4, .int v4), (5, .int v5)] [] s (f_X8_goesShift_69 q_X8_goesShift kb_50 n v1 v2 v3 v4 v5 s) := by
  have hDP : zDP = 64 := rfl
  intro n
  induction n with
  | zero => intro v1 v2 v3 v4 v5 s; exact zv_none
  | succ n ih =>
    intro v1 v2 v3 v4 v5 s
    rw [f_X8_goesShift_69]
    refine zv_iload hX dX8_goesShift_69 5 rfl ?_
    refine zv_iload_n hX dX8_goesShift_71 1 rfl ?_
    refine zv_icmp_ge (tgt := 119) hX dX8_goesShift_72 rfl ?_ ?_
    · refine zv_aload_n hX dX8_goesShift_119 0 rfl ?_
      refine zv_iload_n hX dX8_goesShift_120 1 rfl ?_
      refine zv_iconst (v := (1 : Int32)) hX dX8_goesShift_121 zi_i_1 ?_
      refine zv_iadd hX dX8_goesShift_122 ?_
      refine zv_iload hX dX8_goesShift_123 4 rfl ?_
      refine zv_cVV [.int (v1 + (1 : Int32)), .int v4] (rest := []) hX hT.2.2.2.2 (hq_X8_goesShift (v1 + (1 : Int32)) v4 s) wv_X8_goesShift c9_8 zd_76 wm_X8_236 rfl (by omega) (by omega) rfl (Nat.le_of_ble_eq_true rfl) dX8_goesShift_125 (fun _ s1 => ?_)
      refine zv_iincB (lw := fun x2 => [(3, .int x2), (0, .ref (zx_ad X 76)), (1, .int v1), (2, .int v2), (4, .int v4), (5, .int v5)]) hX dX8_goesShift_128 3 rfl zi_i_1 (by decide) (fun _ => rfl) (fun x2 => ?_)
      refine zv_goto (tgt := 50) hX dX8_goesShift_131 rfl ?_
      exact zv_sub [1, 2, 3, 0] rfl (hk_50 v1 v2 x2 s1)
    · refine zv_iload hX dX8_goesShift_75 4 rfl ?_
      refine zv_aload_n hX dX8_goesShift_77 0 rfl ?_
      refine zv_geta hX wf_X8_36 wc_8 zd_76 zj_76_18 c9_8 zr_76_18 (by decide) dX8_goesShift_78 ?_
      refine zv_bipush (v := (nI 9)) hX dX8_goesShift_81 zi_b_9 ?_
      refine zv_iload hX dX8_goesShift_83 5 rfl ?_
      refine zv_imul hX dX8_goesShift_85 ?_
      refine zv_aload_n hX dX8_goesShift_86 0 rfl ?_
      refine zv_geta hX wf_X8_33 wc_8 zd_76 zj_76_17 c9_8 zr_76_17 (by decide) dX8_goesShift_87 ?_
      refine zv_iload hX dX8_goesShift_90 5 rfl ?_
      refine zv_iald hX dX8_goesShift_92 (fun x3 => ?_)
      refine zv_iadd hX dX8_goesShift_93 ?_
      refine zv_iald hX dX8_goesShift_94 (fun x4 => ?_)
      refine zv_aload_n hX dX8_goesShift_95 0 rfl ?_
      refine zv_geta hX wf_X8_36 wc_8 zd_76 zj_76_18 c9_8 zr_76_18 (by decide) dX8_goesShift_96 ?_
      refine zv_bipush (v := (nI 9)) hX dX8_goesShift_99 zi_b_9 ?_
      refine zv_iload_n hX dX8_goesShift_101 1 rfl ?_
      refine zv_imul hX dX8_goesShift_102 ?_
      refine zv_iload_n hX dX8_goesShift_103 3 rfl ?_
      refine zv_iadd hX dX8_goesShift_104 ?_
      refine zv_iald hX dX8_goesShift_105 (fun x5 => ?_)
      refine zv_iand hX dX8_goesShift_106 ?_
      refine zv_cSI [.int (x4 &&& x5)] (rest := [.int v4]) hX hT.2.2.2.2 (c_X8_bitsOf (zx_Y X) (x4 &&& x5) s) wv_X8_bitsOf wm_X8_233 rfl (by omega) (by omega) rfl (Nat.le_of_ble_eq_true rfl) dX8_goesShift_107 (fun r6 s7 => ?_)
      refine zv_iadd hX dX8_goesShift_110 ?_
      refine zv_istB (lw := fun x8 => [(4, .int x8), (0, .ref (zx_ad X 76)), (1, .int v1), (2, .int v2), (3, .int v3), (5, .int v5)]) hX dX8_goesShift_111 (by decide) (fun _ => rfl) (fun x8 => ?_)
      refine zv_iincB (lw := fun x9 => [(5, .int x9), (4, .int x8), (0, .ref (zx_ad X 76)), (1, .int v1), (2, .int v2), (3, .int v3)]) hX dX8_goesShift_113 5 rfl zi_i_1 (by decide) (fun _ => rfl) (fun x9 => ?_)
      refine zv_goto (tgt := 69) hX dX8_goesShift_116 rfl ?_
      exact zv_sub [2, 3, 4, 5, 1, 0] rfl (ih v1 v2 v3 x8 x9 s7)
def f_X8_goesShift_50 (q_X8_goesShift : Int32 → Int32 → zS → Option (Unit × zS)) : Nat → Int32 → Int32 → Int32 → zS → Option (Unit × zS)
  | 0, _, _, _, _ => none
  | n + 1, v1, v2, v3, s =>
    if (nI 9) ≤ v3 then
    (some ((), s))
    else
    (zw_i s 82 v1 v3).bind fun s10 =>
    f_X8_goesShift_69 q_X8_goesShift (f_X8_goesShift_50 q_X8_goesShift n) zFU v1 v2 v3 v2 (0 : Int32) s10
set_option maxRecDepth 20000 in
theorem b_X8_goesShift_50 {X : zX} {dd : Nat} {q_X8_goesShift : Int32 → Int32 → zS → Option (Unit × zS)} (hX : zx_ok X cX8_goesShift RX8 6) (hT : zx_rt X none (zR (1 + dd + 1) (22 + (dd + 1) * 25))) (hq_X8_goesShift : ∀ (v1 : Int32) (v2 : Int32) (s : zS), zM (zx_Y X) yX8_goesShift cX8_goesShift 6 none (zR (1 + dd) (22 + dd * 25)) [.ref (zx_ad X 76), .int v1, .int v2] s zrV (q_X8_goesShift v1 v2 s)) : ∀ (n : Nat) (v1 : Int32) (v2 : Int32) (v3 : Int32) (s : zS), zV X (zq X zrV) 6 50 [(0, .ref (zx_ad X 76)), (1, .int v1), (2, .int v2), (3, .int v3)] [] s (f_X8_goesShift_50 q_X8_goesShift n v1 v2 v3 s) := by
  have hDP : zDP = 64 := rfl
  intro n
  induction n with
  | zero => intro v1 v2 v3 s; exact zv_none
  | succ n ih =>
    intro v1 v2 v3 s
    rw [f_X8_goesShift_50]
    refine zv_iload_n hX dX8_goesShift_50 3 rfl ?_
    refine zv_bipush (v := (nI 9)) hX dX8_goesShift_51 zi_b_9 ?_
    refine zv_icmp_ge (tgt := 134) hX dX8_goesShift_53 rfl ?_ ?_
    · exact zv_vret hX hT dX8_goesShift_134
    · refine zv_aload_n hX dX8_goesShift_56 0 rfl ?_
      refine zv_geta hX wf_X8_33 wc_8 zd_76 zj_76_17 c9_8 zr_76_17 (by decide) dX8_goesShift_57 ?_
      refine zv_iload_n hX dX8_goesShift_60 1 rfl ?_
      refine zv_iload_n hX dX8_goesShift_61 3 rfl ?_
      refine zv_iast hX dX8_goesShift_62 (fun s10 => ?_)
      refine zv_iload_n hX dX8_goesShift_63 2 rfl ?_
      refine zv_istore (lv' := [(4, .int v2), (0, .ref (zx_ad X 76)), (1, .int v1), (2, .int v2), (3, .int v3)]) hX dX8_goesShift_64 (by decide) rfl ?_
      refine zv_iconst (v := (0 : Int32)) hX dX8_goesShift_66 zi_i_0 ?_
      refine zv_istore (lv' := [(5, .int (0 : Int32)), (4, .int v2), (0, .ref (zx_ad X 76)), (1, .int v1), (2, .int v2), (3, .int v3)]) hX dX8_goesShift_67 (by decide) rfl ?_
      exact zv_sub [2, 3, 4, 5, 1, 0] rfl (b_X8_goesShift_69 hX hT hq_X8_goesShift ih zFU v1 v2 v3 v2 (0 : Int32) s10)
def f_X8_goesShift_24 (q_X8_goesShift : Int32 → Int32 → zS → Option (Unit × zS)) : Nat → Int32 → zS → Option (Unit × zS)
  | 0, _, _ => none
  | n + 1, v3, s =>
    if (nI 4) ≤ v3 then
    (some ((), s))
    else
    (zr_i s 82 v3).bind fun x11 =>
    (zw_i s 84 v3 x11).bind fun s12 =>
    zb (v3 + (1 : Int32)) fun x13 =>
    f_X8_goesShift_24 q_X8_goesShift n x13 s12
set_option maxRecDepth 20000 in
theorem b_X8_goesShift_24 {X : zX} {dd : Nat} {q_X8_goesShift : Int32 → Int32 → zS → Option (Unit × zS)} (hX : zx_ok X cX8_goesShift RX8 6) (hT : zx_rt X none (zR (1 + dd + 1) (22 + (dd + 1) * 25))) (hq_X8_goesShift : ∀ (v1 : Int32) (v2 : Int32) (s : zS), zM (zx_Y X) yX8_goesShift cX8_goesShift 6 none (zR (1 + dd) (22 + dd * 25)) [.ref (zx_ad X 76), .int v1, .int v2] s zrV (q_X8_goesShift v1 v2 s)) : ∀ (n : Nat) (v3 : Int32) (s : zS), zV X (zq X zrV) 6 24 [(0, .ref (zx_ad X 76)), (3, .int v3)] [] s (f_X8_goesShift_24 q_X8_goesShift n v3 s) := by
  have hDP : zDP = 64 := rfl
  intro n
  induction n with
  | zero => intro v3 s; exact zv_none
  | succ n ih =>
    intro v3 s
    rw [f_X8_goesShift_24]
    refine zv_iload_n hX dX8_goesShift_24 1 rfl ?_
    refine zv_iconst (v := (nI 4)) hX dX8_goesShift_25 zi_i_4 ?_
    refine zv_icmp_ge (tgt := 47) hX dX8_goesShift_26 rfl ?_ ?_
    · exact zv_vret hX hT dX8_goesShift_47
    · refine zv_aload_n hX dX8_goesShift_29 0 rfl ?_
      refine zv_geta hX wf_X8_39 wc_8 zd_76 zj_76_19 c9_8 zr_76_19 (by decide) dX8_goesShift_30 ?_
      refine zv_iload_n hX dX8_goesShift_33 1 rfl ?_
      refine zv_aload_n hX dX8_goesShift_34 0 rfl ?_
      refine zv_geta hX wf_X8_33 wc_8 zd_76 zj_76_17 c9_8 zr_76_17 (by decide) dX8_goesShift_35 ?_
      refine zv_iload_n hX dX8_goesShift_38 1 rfl ?_
      refine zv_iald hX dX8_goesShift_39 (fun x11 => ?_)
      refine zv_iast hX dX8_goesShift_40 (fun s12 => ?_)
      refine zv_iincB (lw := fun x13 => [(3, .int x13), (0, .ref (zx_ad X 76))]) hX dX8_goesShift_41 1 rfl zi_i_1 (by decide) (fun _ => rfl) (fun x13 => ?_)
      refine zv_goto (tgt := 24) hX dX8_goesShift_44 rfl ?_
      exact zv_sub [1, 0] rfl (ih x13 s12)
def g_X8_goesShift (q_X8_goesShift : Int32 → Int32 → zS → Option (Unit × zS)) (v1 : Int32) (v2 : Int32) (s : zS) : Option (Unit × zS) :=
  if v2 < (s.1 76 21) then
  (if ¬ v1 = (s.1 76 20) then
  (f_X8_goesShift_50 q_X8_goesShift zFU v1 v2 (0 : Int32) s)
  else
  zb (zs_i s 76 21 v2) fun s14 =>
  f_X8_goesShift_24 q_X8_goesShift zFU (0 : Int32) s14)
  else
  some ((), s)
set_option maxRecDepth 20000 in
theorem e_X8_goesShift {X : zX} {dd : Nat} {q_X8_goesShift : Int32 → Int32 → zS → Option (Unit × zS)} (hX : zx_ok X cX8_goesShift RX8 6) (hT : zx_rt X none (zR (1 + dd + 1) (22 + (dd + 1) * 25))) (hq_X8_goesShift : ∀ (v1 : Int32) (v2 : Int32) (s : zS), zM (zx_Y X) yX8_goesShift cX8_goesShift 6 none (zR (1 + dd) (22 + dd * 25)) [.ref (zx_ad X 76), .int v1, .int v2] s zrV (q_X8_goesShift v1 v2 s)) : ∀ (v1 : Int32) (v2 : Int32) (s : zS), zV X (zq X zrV) 6 0 [(0, .ref (zx_ad X 76)), (1, .int v1), (2, .int v2)] [] s (g_X8_goesShift q_X8_goesShift v1 v2 s) := by
  have hDP : zDP = 64 := rfl
  intro v1 v2 s
  unfold g_X8_goesShift
  refine zv_iload_n hX dX8_goesShift_0 2 rfl ?_
  refine zv_aload_n hX dX8_goesShift_1 0 rfl ?_
  refine zv_geti hX wf_X8_227 wc_8 zd_76 zj_76_21 c9_8 zr_76_21 dX8_goesShift_2 ?_
  refine zv_icmp_lt (tgt := 9) hX dX8_goesShift_5 rfl ?_ ?_
  · refine zv_iload_n hX dX8_goesShift_9 1 rfl ?_
    refine zv_aload_n hX dX8_goesShift_10 0 rfl ?_
    refine zv_geti hX wf_X8_230 wc_8 zd_76 zj_76_20 c9_8 zr_76_20 dX8_goesShift_11 ?_
    refine zv_icmp_ne (tgt := 48) hX dX8_goesShift_14 rfl ?_ ?_
    · refine zv_iconst (v := (0 : Int32)) hX dX8_goesShift_48 zi_i_0 ?_
      refine zv_istore_n (lv' := [(3, .int (0 : Int32)), (0, .ref (zx_ad X 76)), (1, .int v1), (2, .int v2)]) hX dX8_goesShift_49 (by decide) rfl ?_
      exact zv_sub [1, 2, 3, 0] rfl (b_X8_goesShift_50 hX hT hq_X8_goesShift zFU v1 v2 (0 : Int32) s)
    · refine zv_aload_n hX dX8_goesShift_17 0 rfl ?_
      refine zv_iload_n hX dX8_goesShift_18 2 rfl ?_
      refine zv_puti hX wf_X8_227 wc_8 wk_8_21 zd_76 zj_76_21 c9_8 zr_76_21 dX8_goesShift_19 (fun s14 => ?_)
      refine zv_iconst (v := (0 : Int32)) hX dX8_goesShift_22 zi_i_0 ?_
      refine zv_istore_n (lv' := [(3, .int (0 : Int32)), (0, .ref (zx_ad X 76)), (1, .int v1), (2, .int v2)]) hX dX8_goesShift_23 (by decide) rfl ?_
      exact zv_sub [1, 0] rfl (b_X8_goesShift_24 hX hT hq_X8_goesShift zFU (0 : Int32) s14)
  · exact zv_vret hX hT dX8_goesShift_8
def f_X8_goesShift : Nat → Int32 → Int32 → zS → Option (Unit × zS)
  | 0, _, _, _ => none
  | d + 1, v1, v2, s => g_X8_goesShift (f_X8_goesShift d) v1 v2 s
theorem c_X8_goesShift (Y : zG) : ∀ (d : Nat) (v1 : Int32) (v2 : Int32) (s : zS), zM Y yX8_goesShift cX8_goesShift 6 none (zR (1 + d) (22 + d * 25)) [.ref (zy_a Y 76), .int v1, .int v2] s zrV (f_X8_goesShift d v1 v2 s) := by
  intro d
  induction d with
  | zero => intro v1 v2 s rr h; cases h
  | succ d ih =>
    intro v1 v2 s
    refine zm_start (by decide +kernel) (Nat.le_of_ble_eq_true rfl) ?_
    intro X hY hT hX
    subst hY
    have hX : zx_ok X cX8_goesShift RX8 6 := hX
    show zV X (zq X zrV) 6 0 [(0, .ref (zx_ad X 76)), (1, .int v1), (2, .int v2)] [] s (g_X8_goesShift (f_X8_goesShift d) v1 v2 s)
    exact e_X8_goesShift (dd := d) hX hT ih v1 v2 s
theorem dX8_shifted_0 : decode cX8_shifted 0 = .ok (.iconst 0, 1) := by decide +kernel
theorem dX8_shifted_1 : decode cX8_shifted 1 = .ok (.istore_n 2, 1) := by decide +kernel
theorem dX8_shifted_2 : decode cX8_shifted 2 = .ok (.iconst 0, 1) := by decide +kernel
theorem dX8_shifted_3 : decode cX8_shifted 3 = .ok (.istore_n 3, 1) := by decide +kernel
theorem dX8_shifted_4 : decode cX8_shifted 4 = .ok (.iload_n 3, 1) := by decide +kernel
theorem dX8_shifted_5 : decode cX8_shifted 5 = .ok (.bipush 9, 2) := by decide +kernel
theorem dX8_shifted_7 : decode cX8_shifted 7 = .ok (.if_icmp .ge 40, 3) := by decide +kernel
theorem dX8_shifted_10 : decode cX8_shifted 10 = .ok (.iload_n 0, 1) := by decide +kernel
theorem dX8_shifted_11 : decode cX8_shifted 11 = .ok (.i2l, 1) := by decide +kernel
theorem dX8_shifted_12 : decode cX8_shifted 12 = .ok (.iload_n 3, 1) := by decide +kernel
theorem dX8_shifted_13 : decode cX8_shifted 13 = .ok (.invokestatic 223, 3) := by decide +kernel
theorem dX8_shifted_16 : decode cX8_shifted 16 = .ok (.ifCond .eq 25, 3) := by decide +kernel
theorem dX8_shifted_19 : decode cX8_shifted 19 = .ok (.iload_n 2, 1) := by decide +kernel
theorem dX8_shifted_20 : decode cX8_shifted 20 = .ok (.iconst 1, 1) := by decide +kernel
theorem dX8_shifted_21 : decode cX8_shifted 21 = .ok (.iconst 5, 1) := by decide +kernel
theorem dX8_shifted_22 : decode cX8_shifted 22 = .ok (.iload_n 3, 1) := by decide +kernel
theorem dX8_shifted_23 : decode cX8_shifted 23 = .ok (.iconst 3, 1) := by decide +kernel
theorem dX8_shifted_24 : decode cX8_shifted 24 = .ok (.idiv, 1) := by decide +kernel
theorem dX8_shifted_25 : decode cX8_shifted 25 = .ok (.iload_n 1, 1) := by decide +kernel
theorem dX8_shifted_26 : decode cX8_shifted 26 = .ok (.iconst 3, 1) := by decide +kernel
theorem dX8_shifted_27 : decode cX8_shifted 27 = .ok (.idiv, 1) := by decide +kernel
theorem dX8_shifted_28 : decode cX8_shifted 28 = .ok (.iadd, 1) := by decide +kernel
theorem dX8_shifted_29 : decode cX8_shifted 29 = .ok (.imul, 1) := by decide +kernel
theorem dX8_shifted_30 : decode cX8_shifted 30 = .ok (.iload_n 3, 1) := by decide +kernel
theorem dX8_shifted_31 : decode cX8_shifted 31 = .ok (.iconst 3, 1) := by decide +kernel
theorem dX8_shifted_32 : decode cX8_shifted 32 = .ok (.irem, 1) := by decide +kernel
theorem dX8_shifted_33 : decode cX8_shifted 33 = .ok (.iadd, 1) := by decide +kernel
theorem dX8_shifted_34 : decode cX8_shifted 34 = .ok (.iload_n 1, 1) := by decide +kernel
theorem dX8_shifted_35 : decode cX8_shifted 35 = .ok (.iconst 3, 1) := by decide +kernel
theorem dX8_shifted_36 : decode cX8_shifted 36 = .ok (.irem, 1) := by decide +kernel
theorem dX8_shifted_37 : decode cX8_shifted 37 = .ok (.iadd, 1) := by decide +kernel
theorem dX8_shifted_38 : decode cX8_shifted 38 = .ok (.ishl, 1) := by decide +kernel
theorem dX8_shifted_39 : decode cX8_shifted 39 = .ok (.ior, 1) := by decide +kernel
theorem dX8_shifted_40 : decode cX8_shifted 40 = .ok (.istore_n 2, 1) := by decide +kernel
theorem dX8_shifted_41 : decode cX8_shifted 41 = .ok (.iinc 3 1, 3) := by decide +kernel
theorem dX8_shifted_44 : decode cX8_shifted 44 = .ok (.goto (-40), 3) := by decide +kernel
theorem dX8_shifted_47 : decode cX8_shifted 47 = .ok (.iload_n 2, 1) := by decide +kernel
theorem dX8_shifted_48 : decode cX8_shifted 48 = .ok (.ireturn, 1) := by decide +kernel
def f_X8_shifted_41 (kb_4 : Int32 → Int32 → Int32 → Int32 → zS → Option (Int32 × zS)) (v0 : Int32) (v1 : Int32) (v2 : Int32) (v3 : Int32) (s : zS) : Option (Int32 × zS) :=
  zb (v3 + (1 : Int32)) fun x1 =>
  kb_4 v0 v1 v2 x1 s
set_option maxRecDepth 20000 in
theorem b_X8_shifted_41 {X : zX} {kb_4 : Int32 → Int32 → Int32 → Int32 → zS → Option (Int32 × zS)} (hX : zx_ok X cX8_shifted RX8 4) (hT : zx_rt X (some .int) (zR 1 22)) (hk_4 : ∀ (v0 : Int32) (v1 : Int32) (v2 : Int32) (v3 : Int32) (s : zS), zV X (zq X zrI) 4 4 [(0, .int v0), (1, .int v1), (2, .int v2), (3, .int v3)] [] s (kb_4 v0 v1 v2 v3 s)) : ∀ (v0 : Int32) (v1 : Int32) (v2 : Int32) (v3 : Int32) (s : zS), zV X (zq X zrI) 4 41 [(0, .int v0), (1, .int v1), (2, .int v2), (3, .int v3)] [] s (f_X8_shifted_41 kb_4 v0 v1 v2 v3 s) := by
  intro v0 v1 v2 v3 s
  unfold f_X8_shifted_41
  refine zv_iincB (lw := fun x1 => [(3, .int x1), (0, .int v0), (1, .int v1), (2, .int v2)]) hX dX8_shifted_41 3 rfl zi_i_1 (by decide) (fun _ => rfl) (fun x1 => ?_)
  refine zv_goto (tgt := 4) hX dX8_shifted_44 rfl ?_
  exact zv_sub [1, 2, 3, 0] rfl (hk_4 v0 v1 v2 x1 s)
def f_X8_shifted_4 : Nat → Int32 → Int32 → Int32 → Int32 → zS → Option (Int32 × zS)
  | 0, _, _, _, _, _ => none
  | n + 1, v0, v1, v2, v3, s =>
    if (nI 9) ≤ v3 then
    (some (v2, s))
    else
    zbd (f_X8_isIn (v0.toInt64) v3 s) fun r2 s3 =>
    if r2 = 0 then
    (f_X8_shifted_41 (f_X8_shifted_4 n) v0 v1 v2 v3 s3)
    else
    zb (v2 ||| (zo_shl (1 : Int32) ((((nI 5) * ((v3 / (nI 3)) + (v1 / (nI 3)))) + (zo_rem v3 (nI 3))) + (zo_rem v1 (nI 3))))) fun x4 =>
    f_X8_shifted_41 (f_X8_shifted_4 n) v0 v1 x4 v3 s3
set_option maxRecDepth 20000 in
theorem b_X8_shifted_4 {X : zX} (hX : zx_ok X cX8_shifted RX8 4) (hT : zx_rt X (some .int) (zR 1 22)) : ∀ (n : Nat) (v0 : Int32) (v1 : Int32) (v2 : Int32) (v3 : Int32) (s : zS), zV X (zq X zrI) 4 4 [(0, .int v0), (1, .int v1), (2, .int v2), (3, .int v3)] [] s (f_X8_shifted_4 n v0 v1 v2 v3 s) := by
  intro n
  induction n with
  | zero => intro v0 v1 v2 v3 s; exact zv_none
  | succ n ih =>
    intro v0 v1 v2 v3 s
    rw [f_X8_shifted_4]
    refine zv_iload_n hX dX8_shifted_4 3 rfl ?_
    refine zv_bipush (v := (nI 9)) hX dX8_shifted_5 zi_b_9 ?_
    refine zv_icmp_ge (tgt := 47) hX dX8_shifted_7 rfl ?_ ?_
    · refine zv_iload_n hX dX8_shifted_47 2 rfl ?_
      exact zv_ireti hX hT dX8_shifted_48
    · refine zv_iload_n hX dX8_shifted_10 0 rfl ?_
      refine zv_i2l hX dX8_shifted_11 ?_
      refine zv_iload_n hX dX8_shifted_12 3 rfl ?_
      refine zv_cSI [.long (v0.toInt64), .int v3] (rest := []) hX hT.2.2.2.2 (c_X8_isIn (zx_Y X) (v0.toInt64) v3 s) wv_X8_isIn wm_X8_223 rfl (Nat.le_of_ble_eq_true rfl) (Nat.le_of_ble_eq_true rfl) rfl (Nat.le_of_ble_eq_true rfl) dX8_shifted_13 (fun r2 s3 => ?_)
      refine zv_if_eq (tgt := 41) hX dX8_shifted_16 rfl ?_ ?_
      · exact b_X8_shifted_41 hX hT ih v0 v1 v2 v3 s3
      · refine zv_iload_n hX dX8_shifted_19 2 rfl ?_
        refine zv_iconst (v := (1 : Int32)) hX dX8_shifted_20 zi_i_1 ?_
        refine zv_iconst (v := (nI 5)) hX dX8_shifted_21 zi_i_5 ?_
        refine zv_iload_n hX dX8_shifted_22 3 rfl ?_
        refine zv_iconst (v := (nI 3)) hX dX8_shifted_23 zi_i_3 ?_
        refine zv_idiv hX dX8_shifted_24 (by decide) ?_
        refine zv_iload_n hX dX8_shifted_25 1 rfl ?_
        refine zv_iconst (v := (nI 3)) hX dX8_shifted_26 zi_i_3 ?_
        refine zv_idiv hX dX8_shifted_27 (by decide) ?_
        refine zv_iadd hX dX8_shifted_28 ?_
        refine zv_imul hX dX8_shifted_29 ?_
        refine zv_iload_n hX dX8_shifted_30 3 rfl ?_
        refine zv_iconst (v := (nI 3)) hX dX8_shifted_31 zi_i_3 ?_
        refine zv_irem hX dX8_shifted_32 (by decide) ?_
        refine zv_iadd hX dX8_shifted_33 ?_
        refine zv_iload_n hX dX8_shifted_34 1 rfl ?_
        refine zv_iconst (v := (nI 3)) hX dX8_shifted_35 zi_i_3 ?_
        refine zv_irem hX dX8_shifted_36 (by decide) ?_
        refine zv_iadd hX dX8_shifted_37 ?_
        refine zv_ishl hX dX8_shifted_38 ?_
        refine zv_ior hX dX8_shifted_39 ?_
        refine zv_istB_n (lw := fun x4 => [(2, .int x4), (0, .int v0), (1, .int v1), (3, .int v3)]) hX dX8_shifted_40 (by decide) (fun _ => rfl) (fun x4 => ?_)
        exact zv_sub [1, 2, 0, 3] rfl (b_X8_shifted_41 hX hT ih v0 v1 x4 v3 s3)
def f_X8_shifted (v0 : Int32) (v1 : Int32) (s : zS) : Option (Int32 × zS) :=
  f_X8_shifted_4 zFU v0 v1 (0 : Int32) (0 : Int32) s
set_option maxRecDepth 20000 in
theorem c_X8_shifted (Y : zG) (v0 : Int32) (v1 : Int32) (s : zS) : zM Y yX8_shifted cX8_shifted 4 (some .int) (zR 1 22) [.int v0, .int v1] s zrI (f_X8_shifted v0 v1 s) := by
  refine zm_start (by decide +kernel) (Nat.le_of_ble_eq_true rfl) ?_
  intro X hY hT hX
  subst hY
  have hX : zx_ok X cX8_shifted RX8 4 := hX
  show zV X (zq X zrI) 4 0 [(0, .int v0), (1, .int v1)] [] s _
  unfold f_X8_shifted
  refine zv_iconst (v := (0 : Int32)) hX dX8_shifted_0 zi_i_0 ?_
  refine zv_istore_n (lv' := [(2, .int (0 : Int32)), (0, .int v0), (1, .int v1)]) hX dX8_shifted_1 (by decide) rfl ?_
  refine zv_iconst (v := (0 : Int32)) hX dX8_shifted_2 zi_i_0 ?_
  refine zv_istore_n (lv' := [(3, .int (0 : Int32)), (2, .int (0 : Int32)), (0, .int v0), (1, .int v1)]) hX dX8_shifted_3 (by decide) rfl ?_
  exact zv_sub [2, 3, 1, 0] rfl (b_X8_shifted_4 hX hT zFU v0 v1 (0 : Int32) (0 : Int32) s)
theorem dX8_laysMonogram_0 : decode cX8_laysMonogram 0 = .ok (.iconst 0, 1) := by decide +kernel
theorem dX8_laysMonogram_1 : decode cX8_laysMonogram 1 = .ok (.istore_n 1, 1) := by decide +kernel
theorem dX8_laysMonogram_2 : decode cX8_laysMonogram 2 = .ok (.iload_n 1, 1) := by decide +kernel
theorem dX8_laysMonogram_3 : decode cX8_laysMonogram 3 = .ok (.aload_n 0, 1) := by decide +kernel
theorem dX8_laysMonogram_4 : decode cX8_laysMonogram 4 = .ok (.getfield 230, 3) := by decide +kernel
theorem dX8_laysMonogram_7 : decode cX8_laysMonogram 7 = .ok (.if_icmp .ge 44, 3) := by decide +kernel
theorem dX8_laysMonogram_10 : decode cX8_laysMonogram 10 = .ok (.iconst 0, 1) := by decide +kernel
theorem dX8_laysMonogram_11 : decode cX8_laysMonogram 11 = .ok (.istore_n 2, 1) := by decide +kernel
theorem dX8_laysMonogram_12 : decode cX8_laysMonogram 12 = .ok (.iload_n 2, 1) := by decide +kernel
theorem dX8_laysMonogram_13 : decode cX8_laysMonogram 13 = .ok (.bipush 9, 2) := by decide +kernel
theorem dX8_laysMonogram_15 : decode cX8_laysMonogram 15 = .ok (.if_icmp .ge 30, 3) := by decide +kernel
theorem dX8_laysMonogram_18 : decode cX8_laysMonogram 18 = .ok (.aload_n 0, 1) := by decide +kernel
theorem dX8_laysMonogram_19 : decode cX8_laysMonogram 19 = .ok (.getfield 36, 3) := by decide +kernel
theorem dX8_laysMonogram_22 : decode cX8_laysMonogram 22 = .ok (.bipush 9, 2) := by decide +kernel
theorem dX8_laysMonogram_24 : decode cX8_laysMonogram 24 = .ok (.iload_n 1, 1) := by decide +kernel
theorem dX8_laysMonogram_25 : decode cX8_laysMonogram 25 = .ok (.imul, 1) := by decide +kernel
theorem dX8_laysMonogram_26 : decode cX8_laysMonogram 26 = .ok (.iload_n 2, 1) := by decide +kernel
theorem dX8_laysMonogram_27 : decode cX8_laysMonogram 27 = .ok (.iadd, 1) := by decide +kernel
theorem dX8_laysMonogram_28 : decode cX8_laysMonogram 28 = .ok (.aload_n 0, 1) := by decide +kernel
theorem dX8_laysMonogram_29 : decode cX8_laysMonogram 29 = .ok (.getfield 30, 3) := by decide +kernel
theorem dX8_laysMonogram_32 : decode cX8_laysMonogram 32 = .ok (.iload_n 1, 1) := by decide +kernel
theorem dX8_laysMonogram_33 : decode cX8_laysMonogram 33 = .ok (.iaload, 1) := by decide +kernel
theorem dX8_laysMonogram_34 : decode cX8_laysMonogram 34 = .ok (.iload_n 2, 1) := by decide +kernel
theorem dX8_laysMonogram_35 : decode cX8_laysMonogram 35 = .ok (.invokestatic 240, 3) := by decide +kernel
theorem dX8_laysMonogram_38 : decode cX8_laysMonogram 38 = .ok (.iastore, 1) := by decide +kernel
theorem dX8_laysMonogram_39 : decode cX8_laysMonogram 39 = .ok (.iinc 2 1, 3) := by decide +kernel
theorem dX8_laysMonogram_42 : decode cX8_laysMonogram 42 = .ok (.goto (-30), 3) := by decide +kernel
theorem dX8_laysMonogram_45 : decode cX8_laysMonogram 45 = .ok (.iinc 1 1, 3) := by decide +kernel
theorem dX8_laysMonogram_48 : decode cX8_laysMonogram 48 = .ok (.goto (-46), 3) := by decide +kernel
theorem dX8_laysMonogram_51 : decode cX8_laysMonogram 51 = .ok (.aload_n 0, 1) := by decide +kernel
theorem dX8_laysMonogram_52 : decode cX8_laysMonogram 52 = .ok (.ldc 243, 2) := by decide +kernel
theorem dX8_laysMonogram_54 : decode cX8_laysMonogram 54 = .ok (.putfield 227, 3) := by decide +kernel
theorem dX8_laysMonogram_57 : decode cX8_laysMonogram 57 = .ok (.aload_n 0, 1) := by decide +kernel
theorem dX8_laysMonogram_58 : decode cX8_laysMonogram 58 = .ok (.iconst 0, 1) := by decide +kernel
theorem dX8_laysMonogram_59 : decode cX8_laysMonogram 59 = .ok (.iconst 0, 1) := by decide +kernel
theorem dX8_laysMonogram_60 : decode cX8_laysMonogram 60 = .ok (.invokevirtual 236, 3) := by decide +kernel
theorem dX8_laysMonogram_63 : decode cX8_laysMonogram 63 = .ok (.aload_n 0, 1) := by decide +kernel
theorem dX8_laysMonogram_64 : decode cX8_laysMonogram 64 = .ok (.getfield 227, 3) := by decide +kernel
theorem dX8_laysMonogram_67 : decode cX8_laysMonogram 67 = .ok (.ireturn, 1) := by decide +kernel
def f_X8_laysMonogram_12 (kb_2 : Int32 → zS → Option (Int32 × zS)) : Nat → Int32 → Int32 → zS → Option (Int32 × zS)
  | 0, _, _, _ => none
  | n + 1, v1, v2, s =>
    if (nI 9) ≤ v2 then
    (zb (v1 + (1 : Int32)) fun x1 =>
    kb_2 x1 s)
    else
    (zr_i s 81 v1).bind fun x2 =>
    zbd (f_X8_shifted x2 v2 s) fun r3 s4 =>
    (zw_i s4 83 (((nI 9) * v1) + v2) r3).bind fun s5 =>
    zb (v2 + (1 : Int32)) fun x6 =>
    f_X8_laysMonogram_12 kb_2 n v1 x6 s5
set_option maxRecDepth 20000 in
theorem b_X8_laysMonogram_12 {X : zX} {kb_2 : Int32 → zS → Option (Int32 × zS)} (hX : zx_ok X cX8_laysMonogram RX8 3) (hT : zx_rt X (some .int) (zR 66 1647)) (hk_2 : ∀ (v1 : Int32) (s : zS), zV X (zq X zrI) 3 2 [(0, .ref (zx_ad X 76)), (1, .int v1)] [] s (kb_2 v1 s)) : ∀ (n : Nat) (v1 : Int32) (v2 : Int32) (s : zS), zV X (zq X zrI) 3 12 [(0, .ref (zx_ad X 76)), (1, .int v1), (2, .int v2)] [] s (f_X8_laysMonogram_12 kb_2 n v1 v2 s) := by
  intro n
  induction n with
  | zero => intro v1 v2 s; exact zv_none
  | succ n ih =>
    intro v1 v2 s
    rw [f_X8_laysMonogram_12]
    refine zv_iload_n hX dX8_laysMonogram_12 2 rfl ?_
    refine zv_bipush (v := (nI 9)) hX dX8_laysMonogram_13 zi_b_9 ?_
    refine zv_icmp_ge (tgt := 45) hX dX8_laysMonogram_15 rfl ?_ ?_
    · refine zv_iincB (lw := fun x1 => [(1, .int x1), (0, .ref (zx_ad X 76)), (2, .int v2)]) hX dX8_laysMonogram_45 1 rfl zi_i_1 (by decide) (fun _ => rfl) (fun x1 => ?_)
      refine zv_goto (tgt := 2) hX dX8_laysMonogram_48 rfl ?_
      exact zv_sub [1, 0] rfl (hk_2 x1 s)
    · refine zv_aload_n hX dX8_laysMonogram_18 0 rfl ?_
      refine zv_geta hX wf_X8_36 wc_8 zd_76 zj_76_18 c9_8 zr_76_18 (by decide) dX8_laysMonogram_19 ?_
      refine zv_bipush (v := (nI 9)) hX dX8_laysMonogram_22 zi_b_9 ?_
      refine zv_iload_n hX dX8_laysMonogram_24 1 rfl ?_
      refine zv_imul hX dX8_laysMonogram_25 ?_
      refine zv_iload_n hX dX8_laysMonogram_26 2 rfl ?_
      refine zv_iadd hX dX8_laysMonogram_27 ?_
      refine zv_aload_n hX dX8_laysMonogram_28 0 rfl ?_
      refine zv_geta hX wf_X8_30 wc_8 zd_76 zj_76_16 c9_8 zr_76_16 (by decide) dX8_laysMonogram_29 ?_
      refine zv_iload_n hX dX8_laysMonogram_32 1 rfl ?_
      refine zv_iald hX dX8_laysMonogram_33 (fun x2 => ?_)
      refine zv_iload_n hX dX8_laysMonogram_34 2 rfl ?_
      refine zv_cSI [.int x2, .int v2] (rest := [.int (((nI 9) * v1) + v2), .ref (zx_ad X 83)]) hX hT.2.2.2.2 (c_X8_shifted (zx_Y X) x2 v2 s) wv_X8_shifted wm_X8_240 rfl (Nat.le_of_ble_eq_true rfl) (Nat.le_of_ble_eq_true rfl) rfl (Nat.le_of_ble_eq_true rfl) dX8_laysMonogram_35 (fun r3 s4 => ?_)
      refine zv_iast hX dX8_laysMonogram_38 (fun s5 => ?_)
      refine zv_iincB (lw := fun x6 => [(2, .int x6), (0, .ref (zx_ad X 76)), (1, .int v1)]) hX dX8_laysMonogram_39 2 rfl zi_i_1 (by decide) (fun _ => rfl) (fun x6 => ?_)
      refine zv_goto (tgt := 12) hX dX8_laysMonogram_42 rfl ?_
      exact zv_sub [1, 2, 0] rfl (ih v1 x6 s5)
def f_X8_laysMonogram_2 : Nat → Int32 → zS → Option (Int32 × zS)
  | 0, _, _ => none
  | n + 1, v1, s =>
    if (s.1 76 20) ≤ v1 then
    (zb (zs_i s 76 21 (268435456 : Int32)) fun s7 =>
    zbd (f_X8_goesShift zDP (0 : Int32) (0 : Int32) s7) fun _ s8 =>
    some (s8.1 76 21, s8))
    else
    f_X8_laysMonogram_12 (f_X8_laysMonogram_2 n) zFU v1 (0 : Int32) s
set_option maxRecDepth 20000 in
theorem b_X8_laysMonogram_2 {X : zX} (hX : zx_ok X cX8_laysMonogram RX8 3) (hT : zx_rt X (some .int) (zR 66 1647)) : ∀ (n : Nat) (v1 : Int32) (s : zS), zV X (zq X zrI) 3 2 [(0, .ref (zx_ad X 76)), (1, .int v1)] [] s (f_X8_laysMonogram_2 n v1 s) := by
  intro n
  induction n with
  | zero => intro v1 s; exact zv_none
  | succ n ih =>
    intro v1 s
    rw [f_X8_laysMonogram_2]
    refine zv_iload_n hX dX8_laysMonogram_2 1 rfl ?_
    refine zv_aload_n hX dX8_laysMonogram_3 0 rfl ?_
    refine zv_geti hX wf_X8_230 wc_8 zd_76 zj_76_20 c9_8 zr_76_20 dX8_laysMonogram_4 ?_
    refine zv_icmp_ge (tgt := 51) hX dX8_laysMonogram_7 rfl ?_ ?_
    · refine zv_aload_n hX dX8_laysMonogram_51 0 rfl ?_
      refine zv_ldc hX wn_X8_243 dX8_laysMonogram_52 ?_
      refine zv_puti hX wf_X8_227 wc_8 wk_8_21 zd_76 zj_76_21 c9_8 zr_76_21 dX8_laysMonogram_54 (fun s7 => ?_)
      refine zv_aload_n hX dX8_laysMonogram_57 0 rfl ?_
      refine zv_iconst (v := (0 : Int32)) hX dX8_laysMonogram_58 zi_i_0 ?_
      refine zv_iconst (v := (0 : Int32)) hX dX8_laysMonogram_59 zi_i_0 ?_
      refine zv_cVV [.int (0 : Int32), .int (0 : Int32)] (rest := []) hX hT.2.2.2.2 (c_X8_goesShift (zx_Y X) zDP (0 : Int32) (0 : Int32) s7) wv_X8_goesShift c9_8 zd_76 wm_X8_236 rfl (Nat.le_of_ble_eq_true rfl) (Nat.le_of_ble_eq_true rfl) rfl (Nat.le_of_ble_eq_true rfl) dX8_laysMonogram_60 (fun _ s8 => ?_)
      refine zv_aload_n hX dX8_laysMonogram_63 0 rfl ?_
      refine zv_geti hX wf_X8_227 wc_8 zd_76 zj_76_21 c9_8 zr_76_21 dX8_laysMonogram_64 ?_
      exact zv_ireti hX hT dX8_laysMonogram_67
    · refine zv_iconst (v := (0 : Int32)) hX dX8_laysMonogram_10 zi_i_0 ?_
      refine zv_istore_n (lv' := [(2, .int (0 : Int32)), (0, .ref (zx_ad X 76)), (1, .int v1)]) hX dX8_laysMonogram_11 (by decide) rfl ?_
      exact zv_sub [1, 2, 0] rfl (b_X8_laysMonogram_12 hX hT ih zFU v1 (0 : Int32) s)
def f_X8_laysMonogram  (s : zS) : Option (Int32 × zS) :=
  f_X8_laysMonogram_2 zFU (0 : Int32) s
set_option maxRecDepth 20000 in
theorem c_X8_laysMonogram (Y : zG)  (s : zS) : zM Y yX8_laysMonogram cX8_laysMonogram 3 (some .int) (zR 66 1647) [.ref (zy_a Y 76)] s zrI (f_X8_laysMonogram  s) := by
  refine zm_start (by decide +kernel) (Nat.le_of_ble_eq_true rfl) ?_
  intro X hY hT hX
  subst hY
  have hX : zx_ok X cX8_laysMonogram RX8 3 := hX
  show zV X (zq X zrI) 3 0 [(0, .ref (zx_ad X 76))] [] s _
  unfold f_X8_laysMonogram
  refine zv_iconst (v := (0 : Int32)) hX dX8_laysMonogram_0 zi_i_0 ?_
  refine zv_istore_n (lv' := [(1, .int (0 : Int32)), (0, .ref (zx_ad X 76))]) hX dX8_laysMonogram_1 (by decide) rfl ?_
  exact zv_sub [1, 0] rfl (b_X8_laysMonogram_2 hX hT zFU (0 : Int32) s)
theorem dX8_laysSet_0 : decode cX8_laysSet 0 = .ok (.aload_n 0, 1) := by decide +kernel
theorem dX8_laysSet_1 : decode cX8_laysSet 1 = .ok (.iconst 0, 1) := by decide +kernel
theorem dX8_laysSet_2 : decode cX8_laysSet 2 = .ok (.putfield 230, 3) := by decide +kernel
theorem dX8_laysSet_5 : decode cX8_laysSet 5 = .ok (.iconst 0, 1) := by decide +kernel
theorem dX8_laysSet_6 : decode cX8_laysSet 6 = .ok (.istore_n 2, 1) := by decide +kernel
theorem dX8_laysSet_7 : decode cX8_laysSet 7 = .ok (.iload_n 2, 1) := by decide +kernel
theorem dX8_laysSet_8 : decode cX8_laysSet 8 = .ok (.aload_n 0, 1) := by decide +kernel
theorem dX8_laysSet_9 : decode cX8_laysSet 9 = .ok (.getfield 13, 3) := by decide +kernel
theorem dX8_laysSet_12 : decode cX8_laysSet 12 = .ok (.iconst 1, 1) := by decide +kernel
theorem dX8_laysSet_13 : decode cX8_laysSet 13 = .ok (.iaload, 1) := by decide +kernel
theorem dX8_laysSet_14 : decode cX8_laysSet 14 = .ok (.if_icmp .ge 49, 3) := by decide +kernel
theorem dX8_laysSet_17 : decode cX8_laysSet 17 = .ok (.iload_n 1, 1) := by decide +kernel
theorem dX8_laysSet_18 : decode cX8_laysSet 18 = .ok (.i2l, 1) := by decide +kernel
theorem dX8_laysSet_19 : decode cX8_laysSet 19 = .ok (.iload_n 2, 1) := by decide +kernel
theorem dX8_laysSet_20 : decode cX8_laysSet 20 = .ok (.invokestatic 223, 3) := by decide +kernel
theorem dX8_laysSet_23 : decode cX8_laysSet 23 = .ok (.ifCond .ne 6, 3) := by decide +kernel
theorem dX8_laysSet_26 : decode cX8_laysSet 26 = .ok (.goto 31, 3) := by decide +kernel
theorem dX8_laysSet_29 : decode cX8_laysSet 29 = .ok (.aload_n 0, 1) := by decide +kernel
theorem dX8_laysSet_30 : decode cX8_laysSet 30 = .ok (.getfield 30, 3) := by decide +kernel
theorem dX8_laysSet_33 : decode cX8_laysSet 33 = .ok (.aload_n 0, 1) := by decide +kernel
theorem dX8_laysSet_34 : decode cX8_laysSet 34 = .ok (.getfield 230, 3) := by decide +kernel
theorem dX8_laysSet_37 : decode cX8_laysSet 37 = .ok (.aload_n 0, 1) := by decide +kernel
theorem dX8_laysSet_38 : decode cX8_laysSet 38 = .ok (.getfield 13, 3) := by decide +kernel
theorem dX8_laysSet_41 : decode cX8_laysSet 41 = .ok (.bipush 29, 2) := by decide +kernel
theorem dX8_laysSet_43 : decode cX8_laysSet 43 = .ok (.iload_n 2, 1) := by decide +kernel
theorem dX8_laysSet_44 : decode cX8_laysSet 44 = .ok (.iadd, 1) := by decide +kernel
theorem dX8_laysSet_45 : decode cX8_laysSet 45 = .ok (.iaload, 1) := by decide +kernel
theorem dX8_laysSet_46 : decode cX8_laysSet 46 = .ok (.iastore, 1) := by decide +kernel
theorem dX8_laysSet_47 : decode cX8_laysSet 47 = .ok (.aload_n 0, 1) := by decide +kernel
theorem dX8_laysSet_48 : decode cX8_laysSet 48 = .ok (.dup, 1) := by decide +kernel
theorem dX8_laysSet_49 : decode cX8_laysSet 49 = .ok (.getfield 230, 3) := by decide +kernel
theorem dX8_laysSet_52 : decode cX8_laysSet 52 = .ok (.iconst 1, 1) := by decide +kernel
theorem dX8_laysSet_53 : decode cX8_laysSet 53 = .ok (.iadd, 1) := by decide +kernel
theorem dX8_laysSet_54 : decode cX8_laysSet 54 = .ok (.putfield 230, 3) := by decide +kernel
theorem dX8_laysSet_57 : decode cX8_laysSet 57 = .ok (.iinc 2 1, 3) := by decide +kernel
theorem dX8_laysSet_60 : decode cX8_laysSet 60 = .ok (.goto (-53), 3) := by decide +kernel
theorem dX8_laysSet_63 : decode cX8_laysSet 63 = .ok (.aload_n 0, 1) := by decide +kernel
theorem dX8_laysSet_64 : decode cX8_laysSet 64 = .ok (.invokevirtual 244, 3) := by decide +kernel
theorem dX8_laysSet_67 : decode cX8_laysSet 67 = .ok (.ireturn, 1) := by decide +kernel
def f_X8_laysSet_57 (kb_7 : Int32 → Int32 → zS → Option (Int32 × zS)) (v1 : Int32) (v2 : Int32) (s : zS) : Option (Int32 × zS) :=
  zb (v2 + (1 : Int32)) fun x1 =>
  kb_7 v1 x1 s
set_option maxRecDepth 20000 in
theorem b_X8_laysSet_57 {X : zX} {kb_7 : Int32 → Int32 → zS → Option (Int32 × zS)} (hX : zx_ok X cX8_laysSet RX8 3) (hT : zx_rt X (some .int) (zR 67 1669)) (hk_7 : ∀ (v1 : Int32) (v2 : Int32) (s : zS), zV X (zq X zrI) 3 7 [(0, .ref (zx_ad X 76)), (1, .int v1), (2, .int v2)] [] s (kb_7 v1 v2 s)) : ∀ (v1 : Int32) (v2 : Int32) (s : zS), zV X (zq X zrI) 3 57 [(0, .ref (zx_ad X 76)), (1, .int v1), (2, .int v2)] [] s (f_X8_laysSet_57 kb_7 v1 v2 s) := by
  intro v1 v2 s
  unfold f_X8_laysSet_57
  refine zv_iincB (lw := fun x1 => [(2, .int x1), (0, .ref (zx_ad X 76)), (1, .int v1)]) hX dX8_laysSet_57 2 rfl zi_i_1 (by decide) (fun _ => rfl) (fun x1 => ?_)
  refine zv_goto (tgt := 7) hX dX8_laysSet_60 rfl ?_
  exact zv_sub [1, 2, 0] rfl (hk_7 v1 x1 s)
def f_X8_laysSet_7 : Nat → Int32 → Int32 → zS → Option (Int32 × zS)
  | 0, _, _, _ => none
  | n + 1, v1, v2, s =>
    (zr_i s 77 (1 : Int32)).bind fun x2 =>
    if x2 ≤ v2 then
    (zbd (f_X8_laysMonogram s) fun r3 s4 =>
    some (r3, s4))
    else
    zbd (f_X8_isIn (v1.toInt64) v2 s) fun r5 s6 =>
    if ¬ r5 = 0 then
    ((zr_i s6 77 ((nI 29) + v2)).bind fun x7 =>
    (zw_i s6 81 (s6.1 76 20) x7).bind fun s8 =>
    zb (zs_i s8 76 20 ((s8.1 76 20) + (1 : Int32))) fun s9 =>
    f_X8_laysSet_57 (f_X8_laysSet_7 n) v1 v2 s9)
    else
    f_X8_laysSet_57 (f_X8_laysSet_7 n) v1 v2 s6
set_option maxRecDepth 20000 in
theorem b_X8_laysSet_7 {X : zX} (hX : zx_ok X cX8_laysSet RX8 3) (hT : zx_rt X (some .int) (zR 67 1669)) : ∀ (n : Nat) (v1 : Int32) (v2 : Int32) (s : zS), zV X (zq X zrI) 3 7 [(0, .ref (zx_ad X 76)), (1, .int v1), (2, .int v2)] [] s (f_X8_laysSet_7 n v1 v2 s) := by
  intro n
  induction n with
  | zero => intro v1 v2 s; exact zv_none
  | succ n ih =>
    intro v1 v2 s
    rw [f_X8_laysSet_7]
    refine zv_iload_n hX dX8_laysSet_7 2 rfl ?_
    refine zv_aload_n hX dX8_laysSet_8 0 rfl ?_
    refine zv_geta hX wf_X8_13 wc_8 zd_76 zj_76_1 c9_8 zr_76_1 (by decide) dX8_laysSet_9 ?_
    refine zv_iconst (v := (1 : Int32)) hX dX8_laysSet_12 zi_i_1 ?_
    refine zv_iald hX dX8_laysSet_13 (fun x2 => ?_)
    refine zv_icmp_ge (tgt := 63) hX dX8_laysSet_14 rfl ?_ ?_
    · refine zv_aload_n hX dX8_laysSet_63 0 rfl ?_
      refine zv_cVI [] (rest := []) hX hT.2.2.2.2 (c_X8_laysMonogram (zx_Y X) s) wv_X8_laysMonogram c9_8 zd_76 wm_X8_244 rfl (Nat.le_of_ble_eq_true rfl) (Nat.le_of_ble_eq_true rfl) rfl (Nat.le_of_ble_eq_true rfl) dX8_laysSet_64 (fun r3 s4 => ?_)
      exact zv_ireti hX hT dX8_laysSet_67
    · refine zv_iload_n hX dX8_laysSet_17 1 rfl ?_
      refine zv_i2l hX dX8_laysSet_18 ?_
      refine zv_iload_n hX dX8_laysSet_19 2 rfl ?_
      refine zv_cSI [.long (v1.toInt64), .int v2] (rest := []) hX hT.2.2.2.2 (c_X8_isIn (zx_Y X) (v1.toInt64) v2 s) wv_X8_isIn wm_X8_223 rfl (Nat.le_of_ble_eq_true rfl) (Nat.le_of_ble_eq_true rfl) rfl (Nat.le_of_ble_eq_true rfl) dX8_laysSet_20 (fun r5 s6 => ?_)
      refine zv_if_ne (tgt := 29) hX dX8_laysSet_23 rfl ?_ ?_
      · refine zv_aload_n hX dX8_laysSet_29 0 rfl ?_
        refine zv_geta hX wf_X8_30 wc_8 zd_76 zj_76_16 c9_8 zr_76_16 (by decide) dX8_laysSet_30 ?_
        refine zv_aload_n hX dX8_laysSet_33 0 rfl ?_
        refine zv_geti hX wf_X8_230 wc_8 zd_76 zj_76_20 c9_8 zr_76_20 dX8_laysSet_34 ?_
        refine zv_aload_n hX dX8_laysSet_37 0 rfl ?_
        refine zv_geta hX wf_X8_13 wc_8 zd_76 zj_76_1 c9_8 zr_76_1 (by decide) dX8_laysSet_38 ?_
        refine zv_bipush (v := (nI 29)) hX dX8_laysSet_41 zi_b_29 ?_
        refine zv_iload_n hX dX8_laysSet_43 2 rfl ?_
        refine zv_iadd hX dX8_laysSet_44 ?_
        refine zv_iald hX dX8_laysSet_45 (fun x7 => ?_)
        refine zv_iast hX dX8_laysSet_46 (fun s8 => ?_)
        refine zv_aload_n hX dX8_laysSet_47 0 rfl ?_
        refine zv_dup hX dX8_laysSet_48 rfl ?_
        refine zv_geti hX wf_X8_230 wc_8 zd_76 zj_76_20 c9_8 zr_76_20 dX8_laysSet_49 ?_
        refine zv_iconst (v := (1 : Int32)) hX dX8_laysSet_52 zi_i_1 ?_
        refine zv_iadd hX dX8_laysSet_53 ?_
        refine zv_puti hX wf_X8_230 wc_8 wk_8_20 zd_76 zj_76_20 c9_8 zr_76_20 dX8_laysSet_54 (fun s9 => ?_)
        exact b_X8_laysSet_57 hX hT ih v1 v2 s9
      · refine zv_goto (tgt := 57) hX dX8_laysSet_26 rfl ?_
        exact b_X8_laysSet_57 hX hT ih v1 v2 s6
def f_X8_laysSet (v1 : Int32) (s : zS) : Option (Int32 × zS) :=
  zb (zs_i s 76 20 (0 : Int32)) fun s10 =>
  f_X8_laysSet_7 zFU v1 (0 : Int32) s10
set_option maxRecDepth 20000 in
theorem c_X8_laysSet (Y : zG) (v1 : Int32) (s : zS) : zM Y yX8_laysSet cX8_laysSet 3 (some .int) (zR 67 1669) [.ref (zy_a Y 76), .int v1] s zrI (f_X8_laysSet v1 s) := by
  refine zm_start (by decide +kernel) (Nat.le_of_ble_eq_true rfl) ?_
  intro X hY hT hX
  subst hY
  have hX : zx_ok X cX8_laysSet RX8 3 := hX
  show zV X (zq X zrI) 3 0 [(0, .ref (zx_ad X 76)), (1, .int v1)] [] s _
  unfold f_X8_laysSet
  refine zv_aload_n hX dX8_laysSet_0 0 rfl ?_
  refine zv_iconst (v := (0 : Int32)) hX dX8_laysSet_1 zi_i_0 ?_
  refine zv_puti hX wf_X8_230 wc_8 wk_8_20 zd_76 zj_76_20 c9_8 zr_76_20 dX8_laysSet_2 (fun s10 => ?_)
  refine zv_iconst (v := (0 : Int32)) hX dX8_laysSet_5 zi_i_0 ?_
  refine zv_istore_n (lv' := [(2, .int (0 : Int32)), (0, .ref (zx_ad X 76)), (1, .int v1)]) hX dX8_laysSet_6 (by decide) rfl ?_
  exact zv_sub [1, 2, 0] rfl (b_X8_laysSet_7 hX hT zFU v1 (0 : Int32) s10)
theorem dX8_crossOf_0 : decode cX8_crossOf 0 = .ok (.aload_n 0, 1) := by decide +kernel
theorem dX8_crossOf_1 : decode cX8_crossOf 1 = .ok (.iconst 1, 1) := by decide +kernel
theorem dX8_crossOf_2 : decode cX8_crossOf 2 = .ok (.iload_n 1, 1) := by decide +kernel
theorem dX8_crossOf_3 : decode cX8_crossOf 3 = .ok (.ishl, 1) := by decide +kernel
theorem dX8_crossOf_4 : decode cX8_crossOf 4 = .ok (.iconst 1, 1) := by decide +kernel
theorem dX8_crossOf_5 : decode cX8_crossOf 5 = .ok (.iload_n 2, 1) := by decide +kernel
theorem dX8_crossOf_6 : decode cX8_crossOf 6 = .ok (.ishl, 1) := by decide +kernel
theorem dX8_crossOf_7 : decode cX8_crossOf 7 = .ok (.ior, 1) := by decide +kernel
theorem dX8_crossOf_8 : decode cX8_crossOf 8 = .ok (.invokevirtual 247, 3) := by decide +kernel
theorem dX8_crossOf_11 : decode cX8_crossOf 11 = .ok (.ireturn, 1) := by decide +kernel
def f_X8_crossOf (v1 : Int32) (v2 : Int32) (s : zS) : Option (Int32 × zS) :=
  zbd (f_X8_laysSet ((zo_shl (1 : Int32) v1) ||| (zo_shl (1 : Int32) v2)) s) fun r1 s2 =>
  some (r1, s2)
set_option maxRecDepth 20000 in
theorem c_X8_crossOf (Y : zG) (v1 : Int32) (v2 : Int32) (s : zS) : zM Y yX8_crossOf cX8_crossOf 3 (some .int) (zR 68 1691) [.ref (zy_a Y 76), .int v1, .int v2] s zrI (f_X8_crossOf v1 v2 s) := by
  refine zm_start (by decide +kernel) (Nat.le_of_ble_eq_true rfl) ?_
  intro X hY hT hX
  subst hY
  have hX : zx_ok X cX8_crossOf RX8 3 := hX
  show zV X (zq X zrI) 3 0 [(0, .ref (zx_ad X 76)), (1, .int v1), (2, .int v2)] [] s _
  unfold f_X8_crossOf
  refine zv_aload_n hX dX8_crossOf_0 0 rfl ?_
  refine zv_iconst (v := (1 : Int32)) hX dX8_crossOf_1 zi_i_1 ?_
  refine zv_iload_n hX dX8_crossOf_2 1 rfl ?_
  refine zv_ishl hX dX8_crossOf_3 ?_
  refine zv_iconst (v := (1 : Int32)) hX dX8_crossOf_4 zi_i_1 ?_
  refine zv_iload_n hX dX8_crossOf_5 2 rfl ?_
  refine zv_ishl hX dX8_crossOf_6 ?_
  refine zv_ior hX dX8_crossOf_7 ?_
  refine zv_cVI [.int ((zo_shl (1 : Int32) v1) ||| (zo_shl (1 : Int32) v2))] (rest := []) hX hT.2.2.2.2 (c_X8_laysSet (zx_Y X) ((zo_shl (1 : Int32) v1) ||| (zo_shl (1 : Int32) v2)) s) wv_X8_laysSet c9_8 zd_76 wm_X8_247 rfl (Nat.le_of_ble_eq_true rfl) (Nat.le_of_ble_eq_true rfl) rfl (Nat.le_of_ble_eq_true rfl) dX8_crossOf_8 (fun r1 s2 => ?_)
  exact zv_ireti hX hT dX8_crossOf_11
