theorem dX4_lay_0 : decode cX4_lay 0 = .ok (.iconst 0, 1) := by decide +kernel
theorem dX4_lay_1 : decode cX4_lay 1 = .ok (.istore 4, 2) := by decide +kernel
theorem dX4_lay_3 : decode cX4_lay 3 = .ok (.iload 4, 2) := by decide +kernel
theorem dX4_lay_5 : decode cX4_lay 5 = .ok (.bipush 9, 2) := by decide +kernel
theorem dX4_lay_7 : decode cX4_lay 7 = .ok (.if_icmp .ge 131, 3) := by decide +kernel
theorem dX4_lay_10 : decode cX4_lay 10 = .ok (.iload_n 2, 1) := by decide +kernel
theorem dX4_lay_11 : decode cX4_lay 11 = .ok (.iconst 4, 1) := by decide +kernel
theorem dX4_lay_12 : decode cX4_lay 12 = .ok (.if_icmp .ge 126, 3) := by decide +kernel
theorem dX4_lay_15 : decode cX4_lay 15 = .ok (.iload_n 3, 1) := by decide +kernel
theorem dX4_lay_16 : decode cX4_lay 16 = .ok (.aload_n 0, 1) := by decide +kernel
theorem dX4_lay_17 : decode cX4_lay 17 = .ok (.getfield 55, 3) := by decide +kernel
theorem dX4_lay_20 : decode cX4_lay 20 = .ok (.iload_n 2, 1) := by decide +kernel
theorem dX4_lay_21 : decode cX4_lay 21 = .ok (.iconst 4, 1) := by decide +kernel
theorem dX4_lay_22 : decode cX4_lay 22 = .ok (.imul, 1) := by decide +kernel
theorem dX4_lay_23 : decode cX4_lay 23 = .ok (.iload_n 2, 1) := by decide +kernel
theorem dX4_lay_24 : decode cX4_lay 24 = .ok (.iadd, 1) := by decide +kernel
theorem dX4_lay_25 : decode cX4_lay 25 = .ok (.bipush 9, 2) := by decide +kernel
theorem dX4_lay_27 : decode cX4_lay 27 = .ok (.imul, 1) := by decide +kernel
theorem dX4_lay_28 : decode cX4_lay 28 = .ok (.iload 4, 2) := by decide +kernel
theorem dX4_lay_30 : decode cX4_lay 30 = .ok (.iadd, 1) := by decide +kernel
theorem dX4_lay_31 : decode cX4_lay 31 = .ok (.iaload, 1) := by decide +kernel
theorem dX4_lay_32 : decode cX4_lay 32 = .ok (.iadd, 1) := by decide +kernel
theorem dX4_lay_33 : decode cX4_lay 33 = .ok (.istore 5, 2) := by decide +kernel
theorem dX4_lay_35 : decode cX4_lay 35 = .ok (.iload 5, 2) := by decide +kernel
theorem dX4_lay_37 : decode cX4_lay 37 = .ok (.aload_n 0, 1) := by decide +kernel
theorem dX4_lay_38 : decode cX4_lay 38 = .ok (.getfield 24, 3) := by decide +kernel
theorem dX4_lay_41 : decode cX4_lay 41 = .ok (.iload_n 1, 1) := by decide +kernel
theorem dX4_lay_42 : decode cX4_lay 42 = .ok (.iaload, 1) := by decide +kernel
theorem dX4_lay_43 : decode cX4_lay 43 = .ok (.if_icmp .ge 89, 3) := by decide +kernel
theorem dX4_lay_46 : decode cX4_lay 46 = .ok (.aload_n 0, 1) := by decide +kernel
theorem dX4_lay_47 : decode cX4_lay 47 = .ok (.getfield 52, 3) := by decide +kernel
theorem dX4_lay_50 : decode cX4_lay 50 = .ok (.iload_n 2, 1) := by decide +kernel
theorem dX4_lay_51 : decode cX4_lay 51 = .ok (.iload 4, 2) := by decide +kernel
theorem dX4_lay_53 : decode cX4_lay 53 = .ok (.iastore, 1) := by decide +kernel
theorem dX4_lay_54 : decode cX4_lay 54 = .ok (.iload_n 2, 1) := by decide +kernel
theorem dX4_lay_55 : decode cX4_lay 55 = .ok (.iconst 1, 1) := by decide +kernel
theorem dX4_lay_56 : decode cX4_lay 56 = .ok (.iadd, 1) := by decide +kernel
theorem dX4_lay_57 : decode cX4_lay 57 = .ok (.aload_n 0, 1) := by decide +kernel
theorem dX4_lay_58 : decode cX4_lay 58 = .ok (.getfield 105, 3) := by decide +kernel
theorem dX4_lay_61 : decode cX4_lay 61 = .ok (.if_icmp .lt 33, 3) := by decide +kernel
theorem dX4_lay_64 : decode cX4_lay 64 = .ok (.aload_n 0, 1) := by decide +kernel
theorem dX4_lay_65 : decode cX4_lay 65 = .ok (.getfield 24, 3) := by decide +kernel
theorem dX4_lay_68 : decode cX4_lay 68 = .ok (.iload_n 1, 1) := by decide +kernel
theorem dX4_lay_69 : decode cX4_lay 69 = .ok (.iload 5, 2) := by decide +kernel
theorem dX4_lay_71 : decode cX4_lay 71 = .ok (.iastore, 1) := by decide +kernel
theorem dX4_lay_72 : decode cX4_lay 72 = .ok (.aload_n 0, 1) := by decide +kernel
theorem dX4_lay_73 : decode cX4_lay 73 = .ok (.getfield 52, 3) := by decide +kernel
theorem dX4_lay_76 : decode cX4_lay 76 = .ok (.iconst 0, 1) := by decide +kernel
theorem dX4_lay_77 : decode cX4_lay 77 = .ok (.aload_n 0, 1) := by decide +kernel
theorem dX4_lay_78 : decode cX4_lay 78 = .ok (.getfield 30, 3) := by decide +kernel
theorem dX4_lay_81 : decode cX4_lay 81 = .ok (.iload_n 1, 1) := by decide +kernel
theorem dX4_lay_82 : decode cX4_lay 82 = .ok (.iconst 4, 1) := by decide +kernel
theorem dX4_lay_83 : decode cX4_lay 83 = .ok (.imul, 1) := by decide +kernel
theorem dX4_lay_84 : decode cX4_lay 84 = .ok (.aload_n 0, 1) := by decide +kernel
theorem dX4_lay_85 : decode cX4_lay 85 = .ok (.getfield 105, 3) := by decide +kernel
theorem dX4_lay_88 : decode cX4_lay 88 = .ok (.invokestatic 112, 3) := by decide +kernel
theorem dX4_lay_91 : decode cX4_lay 91 = .ok (.goto 41, 3) := by decide +kernel
theorem dX4_lay_94 : decode cX4_lay 94 = .ok (.aload_n 0, 1) := by decide +kernel
theorem dX4_lay_95 : decode cX4_lay 95 = .ok (.iload_n 2, 1) := by decide +kernel
theorem dX4_lay_96 : decode cX4_lay 96 = .ok (.iload 4, 2) := by decide +kernel
theorem dX4_lay_98 : decode cX4_lay 98 = .ok (.aload_n 0, 1) := by decide +kernel
theorem dX4_lay_99 : decode cX4_lay 99 = .ok (.getfield 24, 3) := by decide +kernel
theorem dX4_lay_102 : decode cX4_lay 102 = .ok (.iload_n 1, 1) := by decide +kernel
theorem dX4_lay_103 : decode cX4_lay 103 = .ok (.iaload, 1) := by decide +kernel
theorem dX4_lay_104 : decode cX4_lay 104 = .ok (.iload 5, 2) := by decide +kernel
theorem dX4_lay_106 : decode cX4_lay 106 = .ok (.isub, 1) := by decide +kernel
theorem dX4_lay_107 : decode cX4_lay 107 = .ok (.invokevirtual 118, 3) := by decide +kernel
theorem dX4_lay_110 : decode cX4_lay 110 = .ok (.aload_n 0, 1) := by decide +kernel
theorem dX4_lay_111 : decode cX4_lay 111 = .ok (.getfield 24, 3) := by decide +kernel
theorem dX4_lay_114 : decode cX4_lay 114 = .ok (.iload_n 1, 1) := by decide +kernel
theorem dX4_lay_115 : decode cX4_lay 115 = .ok (.iaload, 1) := by decide +kernel
theorem dX4_lay_116 : decode cX4_lay 116 = .ok (.iload 5, 2) := by decide +kernel
theorem dX4_lay_118 : decode cX4_lay 118 = .ok (.isub, 1) := by decide +kernel
theorem dX4_lay_119 : decode cX4_lay 119 = .ok (.if_icmp .ge 13, 3) := by decide +kernel
theorem dX4_lay_122 : decode cX4_lay 122 = .ok (.aload_n 0, 1) := by decide +kernel
theorem dX4_lay_123 : decode cX4_lay 123 = .ok (.iload_n 1, 1) := by decide +kernel
theorem dX4_lay_124 : decode cX4_lay 124 = .ok (.iload_n 2, 1) := by decide +kernel
theorem dX4_lay_125 : decode cX4_lay 125 = .ok (.iconst 1, 1) := by decide +kernel
theorem dX4_lay_126 : decode cX4_lay 126 = .ok (.iadd, 1) := by decide +kernel
theorem dX4_lay_127 : decode cX4_lay 127 = .ok (.iload 5, 2) := by decide +kernel
theorem dX4_lay_129 : decode cX4_lay 129 = .ok (.invokevirtual 101, 3) := by decide +kernel
theorem dX4_lay_132 : decode cX4_lay 132 = .ok (.iinc 4 1, 3) := by decide +kernel
theorem dX4_lay_135 : decode cX4_lay 135 = .ok (.goto (-132), 3) := by decide +kernel
theorem dX4_lay_138 : decode cX4_lay 138 = .ok (.return_, 1) := by decide +kernel
def f_X4_lay_138 (q_X4_lay : Int32 → Int32 → Int32 → zS → Option (Unit × zS))  (s : zS) : Option (Unit × zS) :=
  some ((), s)
set_option maxRecDepth 20000 in
theorem b_X4_lay_138 {X : zX} {dd : Nat} {q_X4_lay : Int32 → Int32 → Int32 → zS → Option (Unit × zS)} (hX : zx_ok X cX4_lay RX4 6) (hT : zx_rt X none (zR (1 + dd + 1) (80 + (dd + 1) * 25))) (hq_X4_lay : ∀ (v1 : Int32) (v2 : Int32) (v3 : Int32) (s : zS), zM (zx_Y X) yX4_lay cX4_lay 6 none (zR (1 + dd) (80 + dd * 25)) [.ref (zx_ad X 42), .int v1, .int v2, .int v3] s zrV (q_X4_lay v1 v2 v3 s)) : ∀  (s : zS), zV X (zq X zrV) 6 138 [] [] s (f_X4_lay_138 q_X4_lay  s) := by
  have hDP : zDP = 64 := rfl
  intro  s
  unfold f_X4_lay_138
  exact zv_vret hX hT dX4_lay_138
def f_X4_lay_132 (q_X4_lay : Int32 → Int32 → Int32 → zS → Option (Unit × zS)) (kb_3 : Int32 → Int32 → Int32 → Int32 → zS → Option (Unit × zS)) (v1 : Int32) (v2 : Int32) (v3 : Int32) (v4 : Int32) (s : zS) : Option (Unit × zS) :=
  zb (v4 + (1 : Int32)) fun x1 =>
  kb_3 v1 v2 v3 x1 s
set_option maxRecDepth 20000 in
theorem b_X4_lay_132 {X : zX} {dd : Nat} {q_X4_lay : Int32 → Int32 → Int32 → zS → Option (Unit × zS)} {kb_3 : Int32 → Int32 → Int32 → Int32 → zS → Option (Unit × zS)} (hX : zx_ok X cX4_lay RX4 6) (hT : zx_rt X none (zR (1 + dd + 1) (80 + (dd + 1) * 25))) (hq_X4_lay : ∀ (v1 : Int32) (v2 : Int32) (v3 : Int32) (s : zS), zM (zx_Y X) yX4_lay cX4_lay 6 none (zR (1 + dd) (80 + dd * 25)) [.ref (zx_ad X 42), .int v1, .int v2, .int v3] s zrV (q_X4_lay v1 v2 v3 s)) (hk_3 : ∀ (v1 : Int32) (v2 : Int32) (v3 : Int32) (v4 : Int32) (s : zS), zV X (zq X zrV) 6 3 [(0, .ref (zx_ad X 42)), (1, .int v1), (2, .int v2), (3, .int v3), (4, .int v4)] [] s (kb_3 v1 v2 v3 v4 s)) : ∀ (v1 : Int32) (v2 : Int32) (v3 : Int32) (v4 : Int32) (s : zS), zV X (zq X zrV) 6 132 [(0, .ref (zx_ad X 42)), (1, .int v1), (2, .int v2), (3, .int v3), (4, .int v4)] [] s (f_X4_lay_132 q_X4_lay kb_3 v1 v2 v3 v4 s) := by
  have hDP : zDP = 64 := rfl
  intro v1 v2 v3 v4 s
  unfold f_X4_lay_132
  refine zv_iincB (lw := fun x1 => [(4, .int x1), (0, .ref (zx_ad X 42)), (1, .int v1), (2, .int v2), (3, .int v3)]) hX dX4_lay_132 4 rfl zi_i_1 (by decide) (fun _ => rfl) (fun x1 => ?_)
  refine zv_goto (tgt := 3) hX dX4_lay_135 rfl ?_
  exact zv_sub [1, 2, 3, 4, 0] rfl (hk_3 v1 v2 v3 x1 s)
def f_X4_lay_3 (q_X4_lay : Int32 → Int32 → Int32 → zS → Option (Unit × zS)) : Nat → Int32 → Int32 → Int32 → Int32 → zS → Option (Unit × zS)
  | 0, _, _, _, _, _ => none
  | n + 1, v1, v2, v3, v4, s =>
    if (nI 9) ≤ v4 then
    (f_X4_lay_138 q_X4_lay s)
    else
    if (nI 4) ≤ v2 then
    (f_X4_lay_138 q_X4_lay s)
    else
    (zr_i s 57 ((((v2 * (nI 4)) + v2) * (nI 9)) + v4)).bind fun x2 =>
    zb (v3 + x2) fun x3 =>
    (zr_i s 47 v1).bind fun x4 =>
    if x4 ≤ x3 then
    (f_X4_lay_132 q_X4_lay (f_X4_lay_3 q_X4_lay n) v1 v2 v3 v4 s)
    else
    (zw_i s 56 v2 v4).bind fun s5 =>
    if (v2 + (1 : Int32)) < (s5.1 42 14) then
    ((zr_i s5 47 v1).bind fun x6 =>
    zbd (f_X4_leastBehind v2 v4 (x6 - x3) s5) fun r7 s8 =>
    (zr_i s8 47 v1).bind fun x9 =>
    if (x9 - x3) ≤ r7 then
    (f_X4_lay_132 q_X4_lay (f_X4_lay_3 q_X4_lay n) v1 v2 v3 v4 s8)
    else
    zbd (q_X4_lay v1 (v2 + (1 : Int32)) x3 s8) fun _ s10 =>
    f_X4_lay_132 q_X4_lay (f_X4_lay_3 q_X4_lay n) v1 v2 v3 v4 s10)
    else
    (zw_i s5 47 v1 x3).bind fun s11 =>
    (zw_c s11 56 (0 : Int32) 49 (v1 * (nI 4)) (s11.1 42 14)).bind fun s12 =>
    f_X4_lay_132 q_X4_lay (f_X4_lay_3 q_X4_lay n) v1 v2 v3 v4 s12
set_option maxRecDepth 20000 in
theorem b_X4_lay_3 {X : zX} {dd : Nat} {q_X4_lay : Int32 → Int32 → Int32 → zS → Option (Unit × zS)} (hX : zx_ok X cX4_lay RX4 6) (hT : zx_rt X none (zR (1 + dd + 1) (80 + (dd + 1) * 25))) (hq_X4_lay : ∀ (v1 : Int32) (v2 : Int32) (v3 : Int32) (s : zS), zM (zx_Y X) yX4_lay cX4_lay 6 none (zR (1 + dd) (80 + dd * 25)) [.ref (zx_ad X 42), .int v1, .int v2, .int v3] s zrV (q_X4_lay v1 v2 v3 s)) : ∀ (n : Nat) (v1 : Int32) (v2 : Int32) (v3 : Int32) (v4 : Int32) (s : zS), zV X (zq X zrV) 6 3 [(0, .ref (zx_ad X 42)), (1, .int v1), (2, .int v2), (3, .int v3), (4, .int v4)] [] s (f_X4_lay_3 q_X4_lay n v1 v2 v3 v4 s) := by
  have hDP : zDP = 64 := rfl
  intro n
  induction n with
  | zero => intro v1 v2 v3 v4 s; exact zv_none
  | succ n ih =>
    intro v1 v2 v3 v4 s
    rw [f_X4_lay_3]
    refine zv_iload hX dX4_lay_3 4 rfl ?_
    refine zv_bipush (v := (nI 9)) hX dX4_lay_5 zi_b_9 ?_
    refine zv_icmp_ge (tgt := 138) hX dX4_lay_7 rfl ?_ ?_
    · exact zv_sub [] rfl (b_X4_lay_138 hX hT hq_X4_lay  s)
    · refine zv_iload_n hX dX4_lay_10 2 rfl ?_
      refine zv_iconst (v := (nI 4)) hX dX4_lay_11 zi_i_4 ?_
      refine zv_icmp_ge (tgt := 138) hX dX4_lay_12 rfl ?_ ?_
      · exact zv_sub [] rfl (b_X4_lay_138 hX hT hq_X4_lay  s)
      · refine zv_iload_n hX dX4_lay_15 3 rfl ?_
        refine zv_aload_n hX dX4_lay_16 0 rfl ?_
        refine zv_geta hX wf_X4_55 wc_4 zd_42 zj_42_16 c9_4 zr_42_16 (by decide) dX4_lay_17 ?_
        refine zv_iload_n hX dX4_lay_20 2 rfl ?_
        refine zv_iconst (v := (nI 4)) hX dX4_lay_21 zi_i_4 ?_
        refine zv_imul hX dX4_lay_22 ?_
        refine zv_iload_n hX dX4_lay_23 2 rfl ?_
        refine zv_iadd hX dX4_lay_24 ?_
        refine zv_bipush (v := (nI 9)) hX dX4_lay_25 zi_b_9 ?_
        refine zv_imul hX dX4_lay_27 ?_
        refine zv_iload hX dX4_lay_28 4 rfl ?_
        refine zv_iadd hX dX4_lay_30 ?_
        refine zv_iald hX dX4_lay_31 (fun x2 => ?_)
        refine zv_iadd hX dX4_lay_32 ?_
        refine zv_istB (lw := fun x3 => [(5, .int x3), (0, .ref (zx_ad X 42)), (1, .int v1), (2, .int v2), (3, .int v3), (4, .int v4)]) hX dX4_lay_33 (by decide) (fun _ => rfl) (fun x3 => ?_)
        refine zv_iload hX dX4_lay_35 0 rfl ?_
        refine zv_aload_n hX dX4_lay_37 1 rfl ?_
        refine zv_geta hX wf_X4_24 wc_4 zd_42 zj_42_5 c9_4 zr_42_5 (by decide) dX4_lay_38 ?_
        refine zv_iload_n hX dX4_lay_41 2 rfl ?_
        refine zv_iald hX dX4_lay_42 (fun x4 => ?_)
        refine zv_icmp_ge (tgt := 132) hX dX4_lay_43 rfl ?_ ?_
        · exact zv_sub [1, 2, 3, 4, 5] rfl (b_X4_lay_132 hX hT hq_X4_lay ih v1 v2 v3 v4 s)
        · refine zv_aload_n hX dX4_lay_46 1 rfl ?_
          refine zv_geta hX wf_X4_52 wc_4 zd_42 zj_42_15 c9_4 zr_42_15 (by decide) dX4_lay_47 ?_
          refine zv_iload_n hX dX4_lay_50 3 rfl ?_
          refine zv_iload hX dX4_lay_51 5 rfl ?_
          refine zv_iast hX dX4_lay_53 (fun s5 => ?_)
          refine zv_iload_n hX dX4_lay_54 3 rfl ?_
          refine zv_iconst (v := (1 : Int32)) hX dX4_lay_55 zi_i_1 ?_
          refine zv_iadd hX dX4_lay_56 ?_
          refine zv_aload_n hX dX4_lay_57 1 rfl ?_
          refine zv_geti hX wf_X4_105 wc_4 zd_42 zj_42_14 c9_4 zr_42_14 dX4_lay_58 ?_
          refine zv_icmp_lt (tgt := 94) hX dX4_lay_61 rfl ?_ ?_
          · refine zv_aload_n hX dX4_lay_94 1 rfl ?_
            refine zv_iload_n hX dX4_lay_95 3 rfl ?_
            refine zv_iload hX dX4_lay_96 5 rfl ?_
            refine zv_aload_n hX dX4_lay_98 1 rfl ?_
            refine zv_geta hX wf_X4_24 wc_4 zd_42 zj_42_5 c9_4 zr_42_5 (by decide) dX4_lay_99 ?_
            refine zv_iload_n hX dX4_lay_102 2 rfl ?_
            refine zv_iald hX dX4_lay_103 (fun x6 => ?_)
            refine zv_iload hX dX4_lay_104 0 rfl ?_
            refine zv_isub hX dX4_lay_106 ?_
            refine zv_cVI [.int v2, .int v4, .int (x6 - x3)] (rest := []) hX hT.2.2.2.2 (c_X4_leastBehind (zx_Y X) v2 v4 (x6 - x3) s5) wv_X4_leastBehind c9_4 zd_42 wm_X4_118 rfl (by omega) (by omega) rfl (Nat.le_of_ble_eq_true rfl) dX4_lay_107 (fun r7 s8 => ?_)
            refine zv_aload_n hX dX4_lay_110 1 rfl ?_
            refine zv_geta hX wf_X4_24 wc_4 zd_42 zj_42_5 c9_4 zr_42_5 (by decide) dX4_lay_111 ?_
            refine zv_iload_n hX dX4_lay_114 2 rfl ?_
            refine zv_iald hX dX4_lay_115 (fun x9 => ?_)
            refine zv_iload hX dX4_lay_116 0 rfl ?_
            refine zv_isub hX dX4_lay_118 ?_
            refine zv_icmp_ge (tgt := 132) hX dX4_lay_119 rfl ?_ ?_
            · exact zv_sub [1, 2, 3, 4, 5] rfl (b_X4_lay_132 hX hT hq_X4_lay ih v1 v2 v3 v4 s8)
            · refine zv_aload_n hX dX4_lay_122 1 rfl ?_
              refine zv_iload_n hX dX4_lay_123 2 rfl ?_
              refine zv_iload_n hX dX4_lay_124 3 rfl ?_
              refine zv_iconst (v := (1 : Int32)) hX dX4_lay_125 zi_i_1 ?_
              refine zv_iadd hX dX4_lay_126 ?_
              refine zv_iload hX dX4_lay_127 0 rfl ?_
              refine zv_cVV [.int v1, .int (v2 + (1 : Int32)), .int x3] (rest := []) hX hT.2.2.2.2 (hq_X4_lay v1 (v2 + (1 : Int32)) x3 s8) wv_X4_lay c9_4 zd_42 wm_X4_101 rfl (by omega) (by omega) rfl (Nat.le_of_ble_eq_true rfl) dX4_lay_129 (fun _ s10 => ?_)
              exact zv_sub [1, 2, 3, 4, 5] rfl (b_X4_lay_132 hX hT hq_X4_lay ih v1 v2 v3 v4 s10)
          · refine zv_aload_n hX dX4_lay_64 1 rfl ?_
            refine zv_geta hX wf_X4_24 wc_4 zd_42 zj_42_5 c9_4 zr_42_5 (by decide) dX4_lay_65 ?_
            refine zv_iload_n hX dX4_lay_68 2 rfl ?_
            refine zv_iload hX dX4_lay_69 0 rfl ?_
            refine zv_iast hX dX4_lay_71 (fun s11 => ?_)
            refine zv_aload_n hX dX4_lay_72 1 rfl ?_
            refine zv_geta hX wf_X4_52 wc_4 zd_42 zj_42_15 c9_4 zr_42_15 (by decide) dX4_lay_73 ?_
            refine zv_iconst (v := (0 : Int32)) hX dX4_lay_76 zi_i_0 ?_
            refine zv_aload_n hX dX4_lay_77 1 rfl ?_
            refine zv_geta hX wf_X4_30 wc_4 zd_42 zj_42_7 c9_4 zr_42_7 (by decide) dX4_lay_78 ?_
            refine zv_iload_n hX dX4_lay_81 2 rfl ?_
            refine zv_iconst (v := (nI 4)) hX dX4_lay_82 zi_i_4 ?_
            refine zv_imul hX dX4_lay_83 ?_
            refine zv_aload_n hX dX4_lay_84 1 rfl ?_
            refine zv_geti hX wf_X4_105 wc_4 zd_42 zj_42_14 c9_4 zr_42_14 dX4_lay_85 ?_
            refine zv_copy hX wm_X4_112 wa_native wa_static wa_init (by rw [hT.2.2.2.2]; show 1 ≤ 1 + dd + 1; omega) (by rw [hT.2.2.2.2]; exact Nat.le_trans (m := 80) (Nat.le_of_ble_eq_true rfl) (by show 80 ≤ 80 + (dd + 1) * 25; omega)) dX4_lay_88 (fun s12 => ?_)
            refine zv_goto (tgt := 132) hX dX4_lay_91 rfl ?_
            exact zv_sub [1, 2, 3, 4, 5] rfl (b_X4_lay_132 hX hT hq_X4_lay ih v1 v2 v3 v4 s12)
def g_X4_lay (q_X4_lay : Int32 → Int32 → Int32 → zS → Option (Unit × zS)) (v1 : Int32) (v2 : Int32) (v3 : Int32) (s : zS) : Option (Unit × zS) :=
  f_X4_lay_3 q_X4_lay zFU v1 v2 v3 (0 : Int32) s
set_option maxRecDepth 20000 in
theorem e_X4_lay {X : zX} {dd : Nat} {q_X4_lay : Int32 → Int32 → Int32 → zS → Option (Unit × zS)} (hX : zx_ok X cX4_lay RX4 6) (hT : zx_rt X none (zR (1 + dd + 1) (80 + (dd + 1) * 25))) (hq_X4_lay : ∀ (v1 : Int32) (v2 : Int32) (v3 : Int32) (s : zS), zM (zx_Y X) yX4_lay cX4_lay 6 none (zR (1 + dd) (80 + dd * 25)) [.ref (zx_ad X 42), .int v1, .int v2, .int v3] s zrV (q_X4_lay v1 v2 v3 s)) : ∀ (v1 : Int32) (v2 : Int32) (v3 : Int32) (s : zS), zV X (zq X zrV) 6 0 [(0, .ref (zx_ad X 42)), (1, .int v1), (2, .int v2), (3, .int v3)] [] s (g_X4_lay q_X4_lay v1 v2 v3 s) := by
  have hDP : zDP = 64 := rfl
  intro v1 v2 v3 s
  unfold g_X4_lay
  refine zv_iconst (v := (0 : Int32)) hX dX4_lay_0 zi_i_0 ?_
  refine zv_istore (lv' := [(4, .int (0 : Int32)), (0, .ref (zx_ad X 42)), (1, .int v1), (2, .int v2), (3, .int v3)]) hX dX4_lay_1 (by decide) rfl ?_
  exact zv_sub [1, 2, 3, 4, 0] rfl (b_X4_lay_3 hX hT hq_X4_lay zFU v1 v2 v3 (0 : Int32) s)
def f_X4_lay : Nat → Int32 → Int32 → Int32 → zS → Option (Unit × zS)
  | 0, _, _, _, _ => none
  | d + 1, v1, v2, v3, s => g_X4_lay (f_X4_lay d) v1 v2 v3 s
theorem c_X4_lay (Y : zG) : ∀ (d : Nat) (v1 : Int32) (v2 : Int32) (v3 : Int32) (s : zS), zM Y yX4_lay cX4_lay 6 none (zR (1 + d) (80 + d * 25)) [.ref (zy_a Y 42), .int v1, .int v2, .int v3] s zrV (f_X4_lay d v1 v2 v3 s) := by
  intro d
  induction d with
  | zero => intro v1 v2 v3 s rr h; cases h
  | succ d ih =>
    intro v1 v2 v3 s
    refine zm_start (by decide +kernel) (Nat.le_of_ble_eq_true rfl) ?_
    intro X hY hT hX
    subst hY
    have hX : zx_ok X cX4_lay RX4 6 := hX
    show zV X (zq X zrV) 6 0 [(0, .ref (zx_ad X 42)), (1, .int v1), (2, .int v2), (3, .int v3)] [] s (g_X4_lay (f_X4_lay d) v1 v2 v3 s)
    exact e_X4_lay (dd := d) hX hT ih v1 v2 v3 s
theorem dX4_takeMembers_0 : decode cX4_takeMembers 0 = .ok (.aload_n 0, 1) := by decide +kernel
theorem dX4_takeMembers_1 : decode cX4_takeMembers 1 = .ok (.iconst 0, 1) := by decide +kernel
theorem dX4_takeMembers_2 : decode cX4_takeMembers 2 = .ok (.putfield 105, 3) := by decide +kernel
theorem dX4_takeMembers_5 : decode cX4_takeMembers 5 = .ok (.iconst 0, 1) := by decide +kernel
theorem dX4_takeMembers_6 : decode cX4_takeMembers 6 = .ok (.istore_n 2, 1) := by decide +kernel
theorem dX4_takeMembers_7 : decode cX4_takeMembers 7 = .ok (.iload_n 2, 1) := by decide +kernel
theorem dX4_takeMembers_8 : decode cX4_takeMembers 8 = .ok (.bipush 7, 2) := by decide +kernel
theorem dX4_takeMembers_10 : decode cX4_takeMembers 10 = .ok (.if_icmp .ge 74, 3) := by decide +kernel
theorem dX4_takeMembers_13 : decode cX4_takeMembers 13 = .ok (.aload_n 0, 1) := by decide +kernel
theorem dX4_takeMembers_14 : decode cX4_takeMembers 14 = .ok (.getfield 105, 3) := by decide +kernel
theorem dX4_takeMembers_17 : decode cX4_takeMembers 17 = .ok (.iconst 4, 1) := by decide +kernel
theorem dX4_takeMembers_18 : decode cX4_takeMembers 18 = .ok (.if_icmp .ge 66, 3) := by decide +kernel
theorem dX4_takeMembers_21 : decode cX4_takeMembers 21 = .ok (.iload_n 1, 1) := by decide +kernel
theorem dX4_takeMembers_22 : decode cX4_takeMembers 22 = .ok (.iload_n 2, 1) := by decide +kernel
theorem dX4_takeMembers_23 : decode cX4_takeMembers 23 = .ok (.iushr, 1) := by decide +kernel
theorem dX4_takeMembers_24 : decode cX4_takeMembers 24 = .ok (.iconst 1, 1) := by decide +kernel
theorem dX4_takeMembers_25 : decode cX4_takeMembers 25 = .ok (.iand, 1) := by decide +kernel
theorem dX4_takeMembers_26 : decode cX4_takeMembers 26 = .ok (.iconst 1, 1) := by decide +kernel
theorem dX4_takeMembers_27 : decode cX4_takeMembers 27 = .ok (.if_icmp .ne 51, 3) := by decide +kernel
theorem dX4_takeMembers_30 : decode cX4_takeMembers 30 = .ok (.iconst 0, 1) := by decide +kernel
theorem dX4_takeMembers_31 : decode cX4_takeMembers 31 = .ok (.istore_n 3, 1) := by decide +kernel
theorem dX4_takeMembers_32 : decode cX4_takeMembers 32 = .ok (.iload_n 3, 1) := by decide +kernel
theorem dX4_takeMembers_33 : decode cX4_takeMembers 33 = .ok (.aload_n 0, 1) := by decide +kernel
theorem dX4_takeMembers_34 : decode cX4_takeMembers 34 = .ok (.getfield 105, 3) := by decide +kernel
theorem dX4_takeMembers_37 : decode cX4_takeMembers 37 = .ok (.if_icmp .ge 21, 3) := by decide +kernel
theorem dX4_takeMembers_40 : decode cX4_takeMembers 40 = .ok (.aload_n 0, 1) := by decide +kernel
theorem dX4_takeMembers_41 : decode cX4_takeMembers 41 = .ok (.aload_n 0, 1) := by decide +kernel
theorem dX4_takeMembers_42 : decode cX4_takeMembers 42 = .ok (.getfield 49, 3) := by decide +kernel
theorem dX4_takeMembers_45 : decode cX4_takeMembers 45 = .ok (.iload_n 3, 1) := by decide +kernel
theorem dX4_takeMembers_46 : decode cX4_takeMembers 46 = .ok (.iaload, 1) := by decide +kernel
theorem dX4_takeMembers_47 : decode cX4_takeMembers 47 = .ok (.iload_n 2, 1) := by decide +kernel
theorem dX4_takeMembers_48 : decode cX4_takeMembers 48 = .ok (.invokevirtual 109, 3) := by decide +kernel
theorem dX4_takeMembers_51 : decode cX4_takeMembers 51 = .ok (.pop, 1) := by decide +kernel
theorem dX4_takeMembers_52 : decode cX4_takeMembers 52 = .ok (.iinc 3 1, 3) := by decide +kernel
theorem dX4_takeMembers_55 : decode cX4_takeMembers 55 = .ok (.goto (-23), 3) := by decide +kernel
theorem dX4_takeMembers_58 : decode cX4_takeMembers 58 = .ok (.aload_n 0, 1) := by decide +kernel
theorem dX4_takeMembers_59 : decode cX4_takeMembers 59 = .ok (.getfield 49, 3) := by decide +kernel
theorem dX4_takeMembers_62 : decode cX4_takeMembers 62 = .ok (.aload_n 0, 1) := by decide +kernel
theorem dX4_takeMembers_63 : decode cX4_takeMembers 63 = .ok (.getfield 105, 3) := by decide +kernel
theorem dX4_takeMembers_66 : decode cX4_takeMembers 66 = .ok (.iload_n 2, 1) := by decide +kernel
theorem dX4_takeMembers_67 : decode cX4_takeMembers 67 = .ok (.iastore, 1) := by decide +kernel
theorem dX4_takeMembers_68 : decode cX4_takeMembers 68 = .ok (.aload_n 0, 1) := by decide +kernel
theorem dX4_takeMembers_69 : decode cX4_takeMembers 69 = .ok (.dup, 1) := by decide +kernel
theorem dX4_takeMembers_70 : decode cX4_takeMembers 70 = .ok (.getfield 105, 3) := by decide +kernel
theorem dX4_takeMembers_73 : decode cX4_takeMembers 73 = .ok (.iconst 1, 1) := by decide +kernel
theorem dX4_takeMembers_74 : decode cX4_takeMembers 74 = .ok (.iadd, 1) := by decide +kernel
theorem dX4_takeMembers_75 : decode cX4_takeMembers 75 = .ok (.putfield 105, 3) := by decide +kernel
theorem dX4_takeMembers_78 : decode cX4_takeMembers 78 = .ok (.iinc 2 1, 3) := by decide +kernel
theorem dX4_takeMembers_81 : decode cX4_takeMembers 81 = .ok (.goto (-74), 3) := by decide +kernel
theorem dX4_takeMembers_84 : decode cX4_takeMembers 84 = .ok (.return_, 1) := by decide +kernel
def f_X4_takeMembers_84  (s : zS) : Option (Unit × zS) :=
  some ((), s)
set_option maxRecDepth 20000 in
theorem b_X4_takeMembers_84 {X : zX} (hX : zx_ok X cX4_takeMembers RX4 4) (hT : zx_rt X none (zR 2 51)) : ∀  (s : zS), zV X (zq X zrV) 4 84 [] [] s (f_X4_takeMembers_84  s) := by
  intro  s
  unfold f_X4_takeMembers_84
  exact zv_vret hX hT dX4_takeMembers_84
def f_X4_takeMembers_78 (kb_7 : Int32 → Int32 → zS → Option (Unit × zS)) (v1 : Int32) (v2 : Int32) (s : zS) : Option (Unit × zS) :=
  zb (v2 + (1 : Int32)) fun x1 =>
  kb_7 v1 x1 s
set_option maxRecDepth 20000 in
theorem b_X4_takeMembers_78 {X : zX} {kb_7 : Int32 → Int32 → zS → Option (Unit × zS)} (hX : zx_ok X cX4_takeMembers RX4 4) (hT : zx_rt X none (zR 2 51)) (hk_7 : ∀ (v1 : Int32) (v2 : Int32) (s : zS), zV X (zq X zrV) 4 7 [(0, .ref (zx_ad X 42)), (1, .int v1), (2, .int v2)] [] s (kb_7 v1 v2 s)) : ∀ (v1 : Int32) (v2 : Int32) (s : zS), zV X (zq X zrV) 4 78 [(0, .ref (zx_ad X 42)), (1, .int v1), (2, .int v2)] [] s (f_X4_takeMembers_78 kb_7 v1 v2 s) := by
  intro v1 v2 s
  unfold f_X4_takeMembers_78
  refine zv_iincB (lw := fun x1 => [(2, .int x1), (0, .ref (zx_ad X 42)), (1, .int v1)]) hX dX4_takeMembers_78 2 rfl zi_i_1 (by decide) (fun _ => rfl) (fun x1 => ?_)
  refine zv_goto (tgt := 7) hX dX4_takeMembers_81 rfl ?_
  exact zv_sub [1, 2, 0] rfl (hk_7 v1 x1 s)
def f_X4_takeMembers_32 (kb_7 : Int32 → Int32 → zS → Option (Unit × zS)) : Nat → Int32 → Int32 → Int32 → zS → Option (Unit × zS)
  | 0, _, _, _, _ => none
  | n + 1, v1, v2, v3, s =>
    if (s.1 42 14) ≤ v3 then
    ((zw_i s 55 (s.1 42 14) v2).bind fun s2 =>
    zb (zs_i s2 42 14 ((s2.1 42 14) + (1 : Int32))) fun s3 =>
    f_X4_takeMembers_78 kb_7 v1 v2 s3)
    else
    (zr_i s 55 v3).bind fun x4 =>
    zbd (f_X4_fewestOf x4 v2 s) fun r5 s6 =>
    zb (v3 + (1 : Int32)) fun x7 =>
    f_X4_takeMembers_32 kb_7 n v1 v2 x7 s6
set_option maxRecDepth 20000 in
theorem b_X4_takeMembers_32 {X : zX} {kb_7 : Int32 → Int32 → zS → Option (Unit × zS)} (hX : zx_ok X cX4_takeMembers RX4 4) (hT : zx_rt X none (zR 2 51)) (hk_7 : ∀ (v1 : Int32) (v2 : Int32) (s : zS), zV X (zq X zrV) 4 7 [(0, .ref (zx_ad X 42)), (1, .int v1), (2, .int v2)] [] s (kb_7 v1 v2 s)) : ∀ (n : Nat) (v1 : Int32) (v2 : Int32) (v3 : Int32) (s : zS), zV X (zq X zrV) 4 32 [(0, .ref (zx_ad X 42)), (1, .int v1), (2, .int v2), (3, .int v3)] [] s (f_X4_takeMembers_32 kb_7 n v1 v2 v3 s) := by
  intro n
  induction n with
  | zero => intro v1 v2 v3 s; exact zv_none
  | succ n ih =>
    intro v1 v2 v3 s
    rw [f_X4_takeMembers_32]
    refine zv_iload_n hX dX4_takeMembers_32 3 rfl ?_
    refine zv_aload_n hX dX4_takeMembers_33 0 rfl ?_
    refine zv_geti hX wf_X4_105 wc_4 zd_42 zj_42_14 c9_4 zr_42_14 dX4_takeMembers_34 ?_
    refine zv_icmp_ge (tgt := 58) hX dX4_takeMembers_37 rfl ?_ ?_
    · refine zv_aload_n hX dX4_takeMembers_58 0 rfl ?_
      refine zv_geta hX wf_X4_49 wc_4 zd_42 zj_42_13 c9_4 zr_42_13 (by decide) dX4_takeMembers_59 ?_
      refine zv_aload_n hX dX4_takeMembers_62 0 rfl ?_
      refine zv_geti hX wf_X4_105 wc_4 zd_42 zj_42_14 c9_4 zr_42_14 dX4_takeMembers_63 ?_
      refine zv_iload_n hX dX4_takeMembers_66 2 rfl ?_
      refine zv_iast hX dX4_takeMembers_67 (fun s2 => ?_)
      refine zv_aload_n hX dX4_takeMembers_68 0 rfl ?_
      refine zv_dup hX dX4_takeMembers_69 rfl ?_
      refine zv_geti hX wf_X4_105 wc_4 zd_42 zj_42_14 c9_4 zr_42_14 dX4_takeMembers_70 ?_
      refine zv_iconst (v := (1 : Int32)) hX dX4_takeMembers_73 zi_i_1 ?_
      refine zv_iadd hX dX4_takeMembers_74 ?_
      refine zv_puti hX wf_X4_105 wc_4 wk_4_14 zd_42 zj_42_14 c9_4 zr_42_14 dX4_takeMembers_75 (fun s3 => ?_)
      exact zv_sub [0, 1, 2] rfl (b_X4_takeMembers_78 hX hT hk_7 v1 v2 s3)
    · refine zv_aload_n hX dX4_takeMembers_40 0 rfl ?_
      refine zv_aload_n hX dX4_takeMembers_41 0 rfl ?_
      refine zv_geta hX wf_X4_49 wc_4 zd_42 zj_42_13 c9_4 zr_42_13 (by decide) dX4_takeMembers_42 ?_
      refine zv_iload_n hX dX4_takeMembers_45 3 rfl ?_
      refine zv_iald hX dX4_takeMembers_46 (fun x4 => ?_)
      refine zv_iload_n hX dX4_takeMembers_47 2 rfl ?_
      refine zv_cVI [.int x4, .int v2] (rest := []) hX hT.2.2.2.2 (c_X4_fewestOf (zx_Y X) x4 v2 s) wv_X4_fewestOf c9_4 zd_42 wm_X4_109 rfl (Nat.le_of_ble_eq_true rfl) (Nat.le_of_ble_eq_true rfl) rfl (Nat.le_of_ble_eq_true rfl) dX4_takeMembers_48 (fun r5 s6 => ?_)
      refine zv_pop hX dX4_takeMembers_51 rfl ?_
      refine zv_iincB (lw := fun x7 => [(3, .int x7), (0, .ref (zx_ad X 42)), (1, .int v1), (2, .int v2)]) hX dX4_takeMembers_52 3 rfl zi_i_1 (by decide) (fun _ => rfl) (fun x7 => ?_)
      refine zv_goto (tgt := 32) hX dX4_takeMembers_55 rfl ?_
      exact zv_sub [1, 2, 3, 0] rfl (ih v1 v2 x7 s6)
def f_X4_takeMembers_7 : Nat → Int32 → Int32 → zS → Option (Unit × zS)
  | 0, _, _, _ => none
  | n + 1, v1, v2, s =>
    if (nI 7) ≤ v2 then
    (f_X4_takeMembers_84 s)
    else
    if (nI 4) ≤ (s.1 42 14) then
    (f_X4_takeMembers_84 s)
    else
    if ¬ ((zo_ush v1 v2) &&& (1 : Int32)) = (1 : Int32) then
    (f_X4_takeMembers_78 (f_X4_takeMembers_7 n) v1 v2 s)
    else
    f_X4_takeMembers_32 (f_X4_takeMembers_7 n) zFU v1 v2 (0 : Int32) s
set_option maxRecDepth 20000 in
theorem b_X4_takeMembers_7 {X : zX} (hX : zx_ok X cX4_takeMembers RX4 4) (hT : zx_rt X none (zR 2 51)) : ∀ (n : Nat) (v1 : Int32) (v2 : Int32) (s : zS), zV X (zq X zrV) 4 7 [(0, .ref (zx_ad X 42)), (1, .int v1), (2, .int v2)] [] s (f_X4_takeMembers_7 n v1 v2 s) := by
  intro n
  induction n with
  | zero => intro v1 v2 s; exact zv_none
  | succ n ih =>
    intro v1 v2 s
    rw [f_X4_takeMembers_7]
    refine zv_iload_n hX dX4_takeMembers_7 2 rfl ?_
    refine zv_bipush (v := (nI 7)) hX dX4_takeMembers_8 zi_b_7 ?_
    refine zv_icmp_ge (tgt := 84) hX dX4_takeMembers_10 rfl ?_ ?_
    · exact zv_sub [] rfl (b_X4_takeMembers_84 hX hT  s)
    · refine zv_aload_n hX dX4_takeMembers_13 0 rfl ?_
      refine zv_geti hX wf_X4_105 wc_4 zd_42 zj_42_14 c9_4 zr_42_14 dX4_takeMembers_14 ?_
      refine zv_iconst (v := (nI 4)) hX dX4_takeMembers_17 zi_i_4 ?_
      refine zv_icmp_ge (tgt := 84) hX dX4_takeMembers_18 rfl ?_ ?_
      · exact zv_sub [] rfl (b_X4_takeMembers_84 hX hT  s)
      · refine zv_iload_n hX dX4_takeMembers_21 1 rfl ?_
        refine zv_iload_n hX dX4_takeMembers_22 2 rfl ?_
        refine zv_iushr hX dX4_takeMembers_23 ?_
        refine zv_iconst (v := (1 : Int32)) hX dX4_takeMembers_24 zi_i_1 ?_
        refine zv_iand hX dX4_takeMembers_25 ?_
        refine zv_iconst (v := (1 : Int32)) hX dX4_takeMembers_26 zi_i_1 ?_
        refine zv_icmp_ne (tgt := 78) hX dX4_takeMembers_27 rfl ?_ ?_
        · exact b_X4_takeMembers_78 hX hT ih v1 v2 s
        · refine zv_iconst (v := (0 : Int32)) hX dX4_takeMembers_30 zi_i_0 ?_
          refine zv_istore_n (lv' := [(3, .int (0 : Int32)), (0, .ref (zx_ad X 42)), (1, .int v1), (2, .int v2)]) hX dX4_takeMembers_31 (by decide) rfl ?_
          exact zv_sub [1, 2, 3, 0] rfl (b_X4_takeMembers_32 hX hT ih zFU v1 v2 (0 : Int32) s)
def f_X4_takeMembers (v1 : Int32) (s : zS) : Option (Unit × zS) :=
  zb (zs_i s 42 14 (0 : Int32)) fun s8 =>
  f_X4_takeMembers_7 zFU v1 (0 : Int32) s8
set_option maxRecDepth 20000 in
theorem c_X4_takeMembers (Y : zG) (v1 : Int32) (s : zS) : zM Y yX4_takeMembers cX4_takeMembers 4 none (zR 2 51) [.ref (zy_a Y 42), .int v1] s zrV (f_X4_takeMembers v1 s) := by
  refine zm_start (by decide +kernel) (Nat.le_of_ble_eq_true rfl) ?_
  intro X hY hT hX
  subst hY
  have hX : zx_ok X cX4_takeMembers RX4 4 := hX
  show zV X (zq X zrV) 4 0 [(0, .ref (zx_ad X 42)), (1, .int v1)] [] s _
  unfold f_X4_takeMembers
  refine zv_aload_n hX dX4_takeMembers_0 0 rfl ?_
  refine zv_iconst (v := (0 : Int32)) hX dX4_takeMembers_1 zi_i_0 ?_
  refine zv_puti hX wf_X4_105 wc_4 wk_4_14 zd_42 zj_42_14 c9_4 zr_42_14 dX4_takeMembers_2 (fun s8 => ?_)
  refine zv_iconst (v := (0 : Int32)) hX dX4_takeMembers_5 zi_i_0 ?_
  refine zv_istore_n (lv' := [(2, .int (0 : Int32)), (0, .ref (zx_ad X 42)), (1, .int v1)]) hX dX4_takeMembers_6 (by decide) rfl ?_
  exact zv_sub [1, 2, 0] rfl (b_X4_takeMembers_7 hX hT zFU v1 (0 : Int32) s8)
theorem dX4_crossingsOf_0 : decode cX4_crossingsOf 0 = .ok (.aload_n 0, 1) := by decide +kernel
theorem dX4_crossingsOf_1 : decode cX4_crossingsOf 1 = .ok (.getfield 64, 3) := by decide +kernel
theorem dX4_crossingsOf_4 : decode cX4_crossingsOf 4 = .ok (.iload_n 1, 1) := by decide +kernel
theorem dX4_crossingsOf_5 : decode cX4_crossingsOf 5 = .ok (.invokevirtual 92, 3) := by decide +kernel
theorem dX4_crossingsOf_8 : decode cX4_crossingsOf 8 = .ok (.istore_n 2, 1) := by decide +kernel
theorem dX4_crossingsOf_9 : decode cX4_crossingsOf 9 = .ok (.aload_n 0, 1) := by decide +kernel
theorem dX4_crossingsOf_10 : decode cX4_crossingsOf 10 = .ok (.getfield 27, 3) := by decide +kernel
theorem dX4_crossingsOf_13 : decode cX4_crossingsOf 13 = .ok (.iload_n 1, 1) := by decide +kernel
theorem dX4_crossingsOf_14 : decode cX4_crossingsOf 14 = .ok (.iaload, 1) := by decide +kernel
theorem dX4_crossingsOf_15 : decode cX4_crossingsOf 15 = .ok (.iload_n 2, 1) := by decide +kernel
theorem dX4_crossingsOf_16 : decode cX4_crossingsOf 16 = .ok (.if_icmp .eq 30, 3) := by decide +kernel
theorem dX4_crossingsOf_19 : decode cX4_crossingsOf 19 = .ok (.aload_n 0, 1) := by decide +kernel
theorem dX4_crossingsOf_20 : decode cX4_crossingsOf 20 = .ok (.getfield 27, 3) := by decide +kernel
theorem dX4_crossingsOf_23 : decode cX4_crossingsOf 23 = .ok (.iload_n 1, 1) := by decide +kernel
theorem dX4_crossingsOf_24 : decode cX4_crossingsOf 24 = .ok (.iload_n 2, 1) := by decide +kernel
theorem dX4_crossingsOf_25 : decode cX4_crossingsOf 25 = .ok (.iastore, 1) := by decide +kernel
theorem dX4_crossingsOf_26 : decode cX4_crossingsOf 26 = .ok (.aload_n 0, 1) := by decide +kernel
theorem dX4_crossingsOf_27 : decode cX4_crossingsOf 27 = .ok (.getfield 24, 3) := by decide +kernel
theorem dX4_crossingsOf_30 : decode cX4_crossingsOf 30 = .ok (.iload_n 1, 1) := by decide +kernel
theorem dX4_crossingsOf_31 : decode cX4_crossingsOf 31 = .ok (.ldc 96, 2) := by decide +kernel
theorem dX4_crossingsOf_33 : decode cX4_crossingsOf 33 = .ok (.iastore, 1) := by decide +kernel
theorem dX4_crossingsOf_34 : decode cX4_crossingsOf 34 = .ok (.aload_n 0, 1) := by decide +kernel
theorem dX4_crossingsOf_35 : decode cX4_crossingsOf 35 = .ok (.iload_n 1, 1) := by decide +kernel
theorem dX4_crossingsOf_36 : decode cX4_crossingsOf 36 = .ok (.invokevirtual 97, 3) := by decide +kernel
theorem dX4_crossingsOf_39 : decode cX4_crossingsOf 39 = .ok (.aload_n 0, 1) := by decide +kernel
theorem dX4_crossingsOf_40 : decode cX4_crossingsOf 40 = .ok (.iload_n 1, 1) := by decide +kernel
theorem dX4_crossingsOf_41 : decode cX4_crossingsOf 41 = .ok (.iconst 0, 1) := by decide +kernel
theorem dX4_crossingsOf_42 : decode cX4_crossingsOf 42 = .ok (.iconst 0, 1) := by decide +kernel
theorem dX4_crossingsOf_43 : decode cX4_crossingsOf 43 = .ok (.invokevirtual 101, 3) := by decide +kernel
theorem dX4_crossingsOf_46 : decode cX4_crossingsOf 46 = .ok (.aload_n 0, 1) := by decide +kernel
theorem dX4_crossingsOf_47 : decode cX4_crossingsOf 47 = .ok (.getfield 24, 3) := by decide +kernel
theorem dX4_crossingsOf_50 : decode cX4_crossingsOf 50 = .ok (.iload_n 1, 1) := by decide +kernel
theorem dX4_crossingsOf_51 : decode cX4_crossingsOf 51 = .ok (.iaload, 1) := by decide +kernel
theorem dX4_crossingsOf_52 : decode cX4_crossingsOf 52 = .ok (.ireturn, 1) := by decide +kernel
def f_X4_crossingsOf_46 (v1 : Int32) (s : zS) : Option (Int32 × zS) :=
  (zr_i s 47 v1).bind fun x1 =>
  some (x1, s)
set_option maxRecDepth 20000 in
theorem b_X4_crossingsOf_46 {X : zX} (hX : zx_ok X cX4_crossingsOf RX4 3) (hT : zx_rt X (some .int) (zR 66 1705)) : ∀ (v1 : Int32) (s : zS), zV X (zq X zrI) 3 46 [(0, .ref (zx_ad X 42)), (1, .int v1)] [] s (f_X4_crossingsOf_46 v1 s) := by
  intro v1 s
  unfold f_X4_crossingsOf_46
  refine zv_aload_n hX dX4_crossingsOf_46 0 rfl ?_
  refine zv_geta hX wf_X4_24 wc_4 zd_42 zj_42_5 c9_4 zr_42_5 (by decide) dX4_crossingsOf_47 ?_
  refine zv_iload_n hX dX4_crossingsOf_50 1 rfl ?_
  refine zv_iald hX dX4_crossingsOf_51 (fun x1 => ?_)
  exact zv_ireti hX hT dX4_crossingsOf_52
def f_X4_crossingsOf (v1 : Int32) (s : zS) : Option (Int32 × zS) :=
  zbd (f_X5_signAgeOf_3 v1 s) fun r2 s3 =>
  (zr_i s3 48 v1).bind fun x4 =>
  if x4 = r2 then
  (f_X4_crossingsOf_46 v1 s3)
  else
  (zw_i s3 48 v1 r2).bind fun s5 =>
  (zw_i s5 47 v1 (1000000 : Int32)).bind fun s6 =>
  zbd (f_X4_takeMembers v1 s6) fun _ s7 =>
  zbd (f_X4_lay zDP v1 (0 : Int32) (0 : Int32) s7) fun _ s8 =>
  f_X4_crossingsOf_46 v1 s8
set_option maxRecDepth 20000 in
theorem c_X4_crossingsOf (Y : zG) (v1 : Int32) (s : zS) : zM Y yX4_crossingsOf cX4_crossingsOf 3 (some .int) (zR 66 1705) [.ref (zy_a Y 42), .int v1] s zrI (f_X4_crossingsOf v1 s) := by
  refine zm_start (by decide +kernel) (Nat.le_of_ble_eq_true rfl) ?_
  intro X hY hT hX
  subst hY
  have hX : zx_ok X cX4_crossingsOf RX4 3 := hX
  show zV X (zq X zrI) 3 0 [(0, .ref (zx_ad X 42)), (1, .int v1)] [] s _
  unfold f_X4_crossingsOf
  refine zv_aload_n hX dX4_crossingsOf_0 0 rfl ?_
  refine zv_geta hX wf_X4_64 wc_4 zd_42 zj_42_0 c9_4 zr_42_0 (by decide) dX4_crossingsOf_1 ?_
  refine zv_iload_n hX dX4_crossingsOf_4 1 rfl ?_
  refine zv_cVI [.int v1] (rest := []) hX hT.2.2.2.2 (c_X5_signAgeOf_3 (zx_Y X) v1 s) wv_X5_signAgeOf c9_5 zd_3 wm_X4_92 rfl (Nat.le_of_ble_eq_true rfl) (Nat.le_of_ble_eq_true rfl) rfl (Nat.le_of_ble_eq_true rfl) dX4_crossingsOf_5 (fun r2 s3 => ?_)
  refine zv_istore_n (lv' := [(2, .int r2), (0, .ref (zx_ad X 42)), (1, .int v1)]) hX dX4_crossingsOf_8 (by decide) rfl ?_
  refine zv_aload_n hX dX4_crossingsOf_9 1 rfl ?_
  refine zv_geta hX wf_X4_27 wc_4 zd_42 zj_42_6 c9_4 zr_42_6 (by decide) dX4_crossingsOf_10 ?_
  refine zv_iload_n hX dX4_crossingsOf_13 2 rfl ?_
  refine zv_iald hX dX4_crossingsOf_14 (fun x4 => ?_)
  refine zv_iload_n hX dX4_crossingsOf_15 0 rfl ?_
  refine zv_icmp_eq (tgt := 46) hX dX4_crossingsOf_16 rfl ?_ ?_
  · exact zv_sub [1, 2] rfl (b_X4_crossingsOf_46 hX hT v1 s3)
  · refine zv_aload_n hX dX4_crossingsOf_19 1 rfl ?_
    refine zv_geta hX wf_X4_27 wc_4 zd_42 zj_42_6 c9_4 zr_42_6 (by decide) dX4_crossingsOf_20 ?_
    refine zv_iload_n hX dX4_crossingsOf_23 2 rfl ?_
    refine zv_iload_n hX dX4_crossingsOf_24 0 rfl ?_
    refine zv_iast hX dX4_crossingsOf_25 (fun s5 => ?_)
    refine zv_aload_n hX dX4_crossingsOf_26 1 rfl ?_
    refine zv_geta hX wf_X4_24 wc_4 zd_42 zj_42_5 c9_4 zr_42_5 (by decide) dX4_crossingsOf_27 ?_
    refine zv_iload_n hX dX4_crossingsOf_30 2 rfl ?_
    refine zv_ldc hX wn_X4_96 dX4_crossingsOf_31 ?_
    refine zv_iast hX dX4_crossingsOf_33 (fun s6 => ?_)
    refine zv_aload_n hX dX4_crossingsOf_34 1 rfl ?_
    refine zv_iload_n hX dX4_crossingsOf_35 2 rfl ?_
    refine zv_cVV [.int v1] (rest := []) hX hT.2.2.2.2 (c_X4_takeMembers (zx_Y X) v1 s6) wv_X4_takeMembers c9_4 zd_42 wm_X4_97 rfl (Nat.le_of_ble_eq_true rfl) (Nat.le_of_ble_eq_true rfl) rfl (Nat.le_of_ble_eq_true rfl) dX4_crossingsOf_36 (fun _ s7 => ?_)
    refine zv_aload_n hX dX4_crossingsOf_39 1 rfl ?_
    refine zv_iload_n hX dX4_crossingsOf_40 2 rfl ?_
    refine zv_iconst (v := (0 : Int32)) hX dX4_crossingsOf_41 zi_i_0 ?_
    refine zv_iconst (v := (0 : Int32)) hX dX4_crossingsOf_42 zi_i_0 ?_
    refine zv_cVV [.int v1, .int (0 : Int32), .int (0 : Int32)] (rest := []) hX hT.2.2.2.2 (c_X4_lay (zx_Y X) zDP v1 (0 : Int32) (0 : Int32) s7) wv_X4_lay c9_4 zd_42 wm_X4_101 rfl (Nat.le_of_ble_eq_true rfl) (Nat.le_of_ble_eq_true rfl) rfl (Nat.le_of_ble_eq_true rfl) dX4_crossingsOf_43 (fun _ s8 => ?_)
    exact zv_sub [1, 2] rfl (b_X4_crossingsOf_46 hX hT v1 s8)
theorem dX4_isFitting_0 : decode cX4_isFitting 0 = .ok (.iload_n 1, 1) := by decide +kernel
theorem dX4_isFitting_1 : decode cX4_isFitting 1 = .ok (.invokestatic 125, 3) := by decide +kernel
theorem dX4_isFitting_4 : decode cX4_isFitting 4 = .ok (.istore_n 2, 1) := by decide +kernel
theorem dX4_isFitting_5 : decode cX4_isFitting 5 = .ok (.iload_n 2, 1) := by decide +kernel
theorem dX4_isFitting_6 : decode cX4_isFitting 6 = .ok (.iconst 4, 1) := by decide +kernel
theorem dX4_isFitting_7 : decode cX4_isFitting 7 = .ok (.if_icmp .le 5, 3) := by decide +kernel
theorem dX4_isFitting_10 : decode cX4_isFitting 10 = .ok (.iconst 0, 1) := by decide +kernel
theorem dX4_isFitting_11 : decode cX4_isFitting 11 = .ok (.ireturn, 1) := by decide +kernel
theorem dX4_isFitting_12 : decode cX4_isFitting 12 = .ok (.aload_n 0, 1) := by decide +kernel
theorem dX4_isFitting_13 : decode cX4_isFitting 13 = .ok (.getfield 64, 3) := by decide +kernel
theorem dX4_isFitting_16 : decode cX4_isFitting 16 = .ok (.iload_n 1, 1) := by decide +kernel
theorem dX4_isFitting_17 : decode cX4_isFitting 17 = .ok (.invokevirtual 92, 3) := by decide +kernel
theorem dX4_isFitting_20 : decode cX4_isFitting 20 = .ok (.istore_n 3, 1) := by decide +kernel
theorem dX4_isFitting_21 : decode cX4_isFitting 21 = .ok (.aload_n 0, 1) := by decide +kernel
theorem dX4_isFitting_22 : decode cX4_isFitting 22 = .ok (.getfield 37, 3) := by decide +kernel
theorem dX4_isFitting_25 : decode cX4_isFitting 25 = .ok (.iload_n 1, 1) := by decide +kernel
theorem dX4_isFitting_26 : decode cX4_isFitting 26 = .ok (.iaload, 1) := by decide +kernel
theorem dX4_isFitting_27 : decode cX4_isFitting 27 = .ok (.iload_n 3, 1) := by decide +kernel
theorem dX4_isFitting_28 : decode cX4_isFitting 28 = .ok (.if_icmp .eq 34, 3) := by decide +kernel
theorem dX4_isFitting_31 : decode cX4_isFitting 31 = .ok (.aload_n 0, 1) := by decide +kernel
theorem dX4_isFitting_32 : decode cX4_isFitting 32 = .ok (.getfield 37, 3) := by decide +kernel
theorem dX4_isFitting_35 : decode cX4_isFitting 35 = .ok (.iload_n 1, 1) := by decide +kernel
theorem dX4_isFitting_36 : decode cX4_isFitting 36 = .ok (.iload_n 3, 1) := by decide +kernel
theorem dX4_isFitting_37 : decode cX4_isFitting 37 = .ok (.iastore, 1) := by decide +kernel
theorem dX4_isFitting_38 : decode cX4_isFitting 38 = .ok (.aload_n 0, 1) := by decide +kernel
theorem dX4_isFitting_39 : decode cX4_isFitting 39 = .ok (.getfield 33, 3) := by decide +kernel
theorem dX4_isFitting_42 : decode cX4_isFitting 42 = .ok (.iload_n 1, 1) := by decide +kernel
theorem dX4_isFitting_43 : decode cX4_isFitting 43 = .ok (.aload_n 0, 1) := by decide +kernel
theorem dX4_isFitting_44 : decode cX4_isFitting 44 = .ok (.aload_n 0, 1) := by decide +kernel
theorem dX4_isFitting_45 : decode cX4_isFitting 45 = .ok (.iload_n 1, 1) := by decide +kernel
theorem dX4_isFitting_46 : decode cX4_isFitting 46 = .ok (.invokevirtual 122, 3) := by decide +kernel
theorem dX4_isFitting_49 : decode cX4_isFitting 49 = .ok (.aload_n 0, 1) := by decide +kernel
theorem dX4_isFitting_50 : decode cX4_isFitting 50 = .ok (.getfield 64, 3) := by decide +kernel
theorem dX4_isFitting_53 : decode cX4_isFitting 53 = .ok (.iload_n 1, 1) := by decide +kernel
theorem dX4_isFitting_54 : decode cX4_isFitting 54 = .ok (.invokevirtual 130, 3) := by decide +kernel
theorem dX4_isFitting_57 : decode cX4_isFitting 57 = .ok (.iload_n 2, 1) := by decide +kernel
theorem dX4_isFitting_58 : decode cX4_isFitting 58 = .ok (.invokevirtual 133, 3) := by decide +kernel
theorem dX4_isFitting_61 : decode cX4_isFitting 61 = .ok (.bastore, 1) := by decide +kernel
theorem dX4_isFitting_62 : decode cX4_isFitting 62 = .ok (.aload_n 0, 1) := by decide +kernel
theorem dX4_isFitting_63 : decode cX4_isFitting 63 = .ok (.getfield 33, 3) := by decide +kernel
theorem dX4_isFitting_66 : decode cX4_isFitting 66 = .ok (.iload_n 1, 1) := by decide +kernel
theorem dX4_isFitting_67 : decode cX4_isFitting 67 = .ok (.baload, 1) := by decide +kernel
theorem dX4_isFitting_68 : decode cX4_isFitting 68 = .ok (.ireturn, 1) := by decide +kernel
def f_X4_isFitting_62 (v1 : Int32) (s : zS) : Option (Int32 × zS) :=
  (zr_b s 50 v1).bind fun x1 =>
  if x1 = 0 ∨ x1 = 1 then some (x1, s) else none
set_option maxRecDepth 20000 in
theorem b_X4_isFitting_62 {X : zX} (hX : zx_ok X cX4_isFitting RX4 4) (hT : zx_rt X (some .boolean) (zR 67 1727)) : ∀ (v1 : Int32) (s : zS), zV X (zq X zrI) 4 62 [(0, .ref (zx_ad X 42)), (1, .int v1)] [] s (f_X4_isFitting_62 v1 s) := by
  intro v1 s
  unfold f_X4_isFitting_62
  refine zv_aload_n hX dX4_isFitting_62 0 rfl ?_
  refine zv_geta hX wf_X4_33 wc_4 zd_42 zj_42_8 c9_4 zr_42_8 (by decide) dX4_isFitting_63 ?_
  refine zv_iload_n hX dX4_isFitting_66 1 rfl ?_
  refine zv_bald hX dX4_isFitting_67 (fun x1 => ?_)
  exact zv_iretzB hX hT dX4_isFitting_68
def f_X4_isFitting (v1 : Int32) (s : zS) : Option (Int32 × zS) :=
  zbd (f_J6_bitCount_0f7a4 v1 s) fun r2 s3 =>
  if r2 ≤ (nI 4) then
  (zbd (f_X5_signAgeOf_3 v1 s3) fun r4 s5 =>
  (zr_i s5 51 v1).bind fun x6 =>
  if x6 = r4 then
  (f_X4_isFitting_62 v1 s5)
  else
  (zw_i s5 51 v1 r4).bind fun s7 =>
  zbd (f_X4_crossingsOf v1 s7) fun r8 s9 =>
  zbd (f_X5_inkOf_3 v1 s9) fun r10 s11 =>
  zbd (f_X4_lawFits r8 r10 r2 s11) fun r12 s13 =>
  (zw_b s13 50 v1 r12).bind fun s14 =>
  f_X4_isFitting_62 v1 s14)
  else
  some ((0 : Int32), s3)
set_option maxRecDepth 20000 in
theorem c_X4_isFitting (Y : zG) (v1 : Int32) (s : zS) : zM Y yX4_isFitting cX4_isFitting 4 (some .boolean) (zR 67 1727) [.ref (zy_a Y 42), .int v1] s zrI (f_X4_isFitting v1 s) := by
  refine zm_start (by decide +kernel) (Nat.le_of_ble_eq_true rfl) ?_
  intro X hY hT hX
  subst hY
  have hX : zx_ok X cX4_isFitting RX4 4 := hX
  show zV X (zq X zrI) 4 0 [(0, .ref (zx_ad X 42)), (1, .int v1)] [] s _
  unfold f_X4_isFitting
  refine zv_iload_n hX dX4_isFitting_0 1 rfl ?_
  refine zv_cSI [.int v1] (rest := []) hX hT.2.2.2.2 (c_J6_bitCount_0f7a4 (zx_Y X) v1 s) wv_J6_bitCount_0f7a4 wm_X4_125 rfl (Nat.le_of_ble_eq_true rfl) (Nat.le_of_ble_eq_true rfl) rfl (Nat.le_of_ble_eq_true rfl) dX4_isFitting_1 (fun r2 s3 => ?_)
  refine zv_istore_n (lv' := [(2, .int r2), (0, .ref (zx_ad X 42)), (1, .int v1)]) hX dX4_isFitting_4 (by decide) rfl ?_
  refine zv_iload_n hX dX4_isFitting_5 0 rfl ?_
  refine zv_iconst (v := (nI 4)) hX dX4_isFitting_6 zi_i_4 ?_
  refine zv_icmp_le (tgt := 12) hX dX4_isFitting_7 rfl ?_ ?_
  · refine zv_aload_n hX dX4_isFitting_12 1 rfl ?_
    refine zv_geta hX wf_X4_64 wc_4 zd_42 zj_42_0 c9_4 zr_42_0 (by decide) dX4_isFitting_13 ?_
    refine zv_iload_n hX dX4_isFitting_16 2 rfl ?_
    refine zv_cVI [.int v1] (rest := []) hX hT.2.2.2.2 (c_X5_signAgeOf_3 (zx_Y X) v1 s3) wv_X5_signAgeOf c9_5 zd_3 wm_X4_92 rfl (Nat.le_of_ble_eq_true rfl) (Nat.le_of_ble_eq_true rfl) rfl (Nat.le_of_ble_eq_true rfl) dX4_isFitting_17 (fun r4 s5 => ?_)
    refine zv_istore_n (lv' := [(3, .int r4), (2, .int r2), (0, .ref (zx_ad X 42)), (1, .int v1)]) hX dX4_isFitting_20 (by decide) rfl ?_
    refine zv_aload_n hX dX4_isFitting_21 2 rfl ?_
    refine zv_geta hX wf_X4_37 wc_4 zd_42 zj_42_9 c9_4 zr_42_9 (by decide) dX4_isFitting_22 ?_
    refine zv_iload_n hX dX4_isFitting_25 3 rfl ?_
    refine zv_iald hX dX4_isFitting_26 (fun x6 => ?_)
    refine zv_iload_n hX dX4_isFitting_27 0 rfl ?_
    refine zv_icmp_eq (tgt := 62) hX dX4_isFitting_28 rfl ?_ ?_
    · exact zv_sub [2, 3] rfl (b_X4_isFitting_62 hX hT v1 s5)
    · refine zv_aload_n hX dX4_isFitting_31 2 rfl ?_
      refine zv_geta hX wf_X4_37 wc_4 zd_42 zj_42_9 c9_4 zr_42_9 (by decide) dX4_isFitting_32 ?_
      refine zv_iload_n hX dX4_isFitting_35 3 rfl ?_
      refine zv_iload_n hX dX4_isFitting_36 0 rfl ?_
      refine zv_iast hX dX4_isFitting_37 (fun s7 => ?_)
      refine zv_aload_n hX dX4_isFitting_38 2 rfl ?_
      refine zv_geta hX wf_X4_33 wc_4 zd_42 zj_42_8 c9_4 zr_42_8 (by decide) dX4_isFitting_39 ?_
      refine zv_iload_n hX dX4_isFitting_42 3 rfl ?_
      refine zv_aload_n hX dX4_isFitting_43 2 rfl ?_
      refine zv_aload_n hX dX4_isFitting_44 2 rfl ?_
      refine zv_iload_n hX dX4_isFitting_45 3 rfl ?_
      refine zv_cVI [.int v1] (rest := [.ref (zx_ad X 42), .int v1, .ref (zx_ad X 50)]) hX hT.2.2.2.2 (c_X4_crossingsOf (zx_Y X) v1 s7) wv_X4_crossingsOf c9_4 zd_42 wm_X4_122 rfl (Nat.le_of_ble_eq_true rfl) (Nat.le_of_ble_eq_true rfl) rfl (Nat.le_of_ble_eq_true rfl) dX4_isFitting_46 (fun r8 s9 => ?_)
      refine zv_aload_n hX dX4_isFitting_49 2 rfl ?_
      refine zv_geta hX wf_X4_64 wc_4 zd_42 zj_42_0 c9_4 zr_42_0 (by decide) dX4_isFitting_50 ?_
      refine zv_iload_n hX dX4_isFitting_53 3 rfl ?_
      refine zv_cVI [.int v1] (rest := [.int r8, .ref (zx_ad X 42), .int v1, .ref (zx_ad X 50)]) hX hT.2.2.2.2 (c_X5_inkOf_3 (zx_Y X) v1 s9) wv_X5_inkOf c9_5 zd_3 wm_X4_130 rfl (Nat.le_of_ble_eq_true rfl) (Nat.le_of_ble_eq_true rfl) rfl (Nat.le_of_ble_eq_true rfl) dX4_isFitting_54 (fun r10 s11 => ?_)
      refine zv_iload_n hX dX4_isFitting_57 1 rfl ?_
      refine zv_cVI [.int r8, .int r10, .int r2] (rest := [.int v1, .ref (zx_ad X 50)]) hX hT.2.2.2.2 (c_X4_lawFits (zx_Y X) r8 r10 r2 s11) wv_X4_lawFits c9_4 zd_42 wm_X4_133 rfl (Nat.le_of_ble_eq_true rfl) (Nat.le_of_ble_eq_true rfl) rfl (Nat.le_of_ble_eq_true rfl) dX4_isFitting_58 (fun r12 s13 => ?_)
      refine zv_bast hX dX4_isFitting_61 (fun s14 => ?_)
      exact zv_sub [2, 3] rfl (b_X4_isFitting_62 hX hT v1 s14)
  · refine zv_iconst (v := (0 : Int32)) hX dX4_isFitting_10 zi_i_0 ?_
    exact zv_iretz hX hT (by decide) dX4_isFitting_11
