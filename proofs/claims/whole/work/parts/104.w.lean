theorem dX0_pair_0 : decode cX0_pair 0 = .ok (.aload_n 0, 1) := by decide +kernel
theorem dX0_pair_1 : decode cX0_pair 1 = .ok (.getfield 101, 3) := by decide +kernel
theorem dX0_pair_4 : decode cX0_pair 4 = .ok (.aload_n 0, 1) := by decide +kernel
theorem dX0_pair_5 : decode cX0_pair 5 = .ok (.getfield 104, 3) := by decide +kernel
theorem dX0_pair_8 : decode cX0_pair 8 = .ok (.if_icmp .ge 13, 3) := by decide +kernel
theorem dX0_pair_11 : decode cX0_pair 11 = .ok (.aload_n 0, 1) := by decide +kernel
theorem dX0_pair_12 : decode cX0_pair 12 = .ok (.getfield 101, 3) := by decide +kernel
theorem dX0_pair_15 : decode cX0_pair 15 = .ok (.sipush 232, 3) := by decide +kernel
theorem dX0_pair_18 : decode cX0_pair 18 = .ok (.if_icmp .lt 4, 3) := by decide +kernel
theorem dX0_pair_21 : decode cX0_pair 21 = .ok (.return_, 1) := by decide +kernel
theorem dX0_pair_22 : decode cX0_pair 22 = .ok (.iload_n 1, 1) := by decide +kernel
theorem dX0_pair_23 : decode cX0_pair 23 = .ok (.aload_n 0, 1) := by decide +kernel
theorem dX0_pair_24 : decode cX0_pair 24 = .ok (.getfield 33, 3) := by decide +kernel
theorem dX0_pair_27 : decode cX0_pair 27 = .ok (.getfield 65, 3) := by decide +kernel
theorem dX0_pair_30 : decode cX0_pair 30 = .ok (.if_icmp .ge 9, 3) := by decide +kernel
theorem dX0_pair_33 : decode cX0_pair 33 = .ok (.iload_n 1, 1) := by decide +kernel
theorem dX0_pair_34 : decode cX0_pair 34 = .ok (.bipush 7, 2) := by decide +kernel
theorem dX0_pair_36 : decode cX0_pair 36 = .ok (.if_icmp .lt 40, 3) := by decide +kernel
theorem dX0_pair_39 : decode cX0_pair 39 = .ok (.aload_n 0, 1) := by decide +kernel
theorem dX0_pair_40 : decode cX0_pair 40 = .ok (.aload_n 0, 1) := by decide +kernel
theorem dX0_pair_41 : decode cX0_pair 41 = .ok (.getfield 21, 3) := by decide +kernel
theorem dX0_pair_44 : decode cX0_pair 44 = .ok (.iload_n 2, 1) := by decide +kernel
theorem dX0_pair_45 : decode cX0_pair 45 = .ok (.invokevirtual 111, 3) := by decide +kernel
theorem dX0_pair_48 : decode cX0_pair 48 = .ok (.ifCond .eq 27, 3) := by decide +kernel
theorem dX0_pair_51 : decode cX0_pair 51 = .ok (.aload_n 0, 1) := by decide +kernel
theorem dX0_pair_52 : decode cX0_pair 52 = .ok (.getfield 24, 3) := by decide +kernel
theorem dX0_pair_55 : decode cX0_pair 55 = .ok (.aload_n 0, 1) := by decide +kernel
theorem dX0_pair_56 : decode cX0_pair 56 = .ok (.getfield 101, 3) := by decide +kernel
theorem dX0_pair_59 : decode cX0_pair 59 = .ok (.aload_n 0, 1) := by decide +kernel
theorem dX0_pair_60 : decode cX0_pair 60 = .ok (.iload_n 2, 1) := by decide +kernel
theorem dX0_pair_61 : decode cX0_pair 61 = .ok (.invokevirtual 115, 3) := by decide +kernel
theorem dX0_pair_64 : decode cX0_pair 64 = .ok (.iastore, 1) := by decide +kernel
theorem dX0_pair_65 : decode cX0_pair 65 = .ok (.aload_n 0, 1) := by decide +kernel
theorem dX0_pair_66 : decode cX0_pair 66 = .ok (.dup, 1) := by decide +kernel
theorem dX0_pair_67 : decode cX0_pair 67 = .ok (.getfield 101, 3) := by decide +kernel
theorem dX0_pair_70 : decode cX0_pair 70 = .ok (.iconst 1, 1) := by decide +kernel
theorem dX0_pair_71 : decode cX0_pair 71 = .ok (.iadd, 1) := by decide +kernel
theorem dX0_pair_72 : decode cX0_pair 72 = .ok (.putfield 101, 3) := by decide +kernel
theorem dX0_pair_75 : decode cX0_pair 75 = .ok (.return_, 1) := by decide +kernel
theorem dX0_pair_76 : decode cX0_pair 76 = .ok (.iload_n 3, 1) := by decide +kernel
theorem dX0_pair_77 : decode cX0_pair 77 = .ok (.iload_n 1, 1) := by decide +kernel
theorem dX0_pair_78 : decode cX0_pair 78 = .ok (.iushr, 1) := by decide +kernel
theorem dX0_pair_79 : decode cX0_pair 79 = .ok (.iconst 1, 1) := by decide +kernel
theorem dX0_pair_80 : decode cX0_pair 80 = .ok (.iand, 1) := by decide +kernel
theorem dX0_pair_81 : decode cX0_pair 81 = .ok (.ifCond .ne 13, 3) := by decide +kernel
theorem dX0_pair_84 : decode cX0_pair 84 = .ok (.aload_n 0, 1) := by decide +kernel
theorem dX0_pair_85 : decode cX0_pair 85 = .ok (.iload_n 1, 1) := by decide +kernel
theorem dX0_pair_86 : decode cX0_pair 86 = .ok (.iconst 1, 1) := by decide +kernel
theorem dX0_pair_87 : decode cX0_pair 87 = .ok (.iadd, 1) := by decide +kernel
theorem dX0_pair_88 : decode cX0_pair 88 = .ok (.iload_n 2, 1) := by decide +kernel
theorem dX0_pair_89 : decode cX0_pair 89 = .ok (.iload_n 3, 1) := by decide +kernel
theorem dX0_pair_90 : decode cX0_pair 90 = .ok (.invokevirtual 107, 3) := by decide +kernel
theorem dX0_pair_93 : decode cX0_pair 93 = .ok (.return_, 1) := by decide +kernel
theorem dX0_pair_94 : decode cX0_pair 94 = .ok (.iload_n 3, 1) := by decide +kernel
theorem dX0_pair_95 : decode cX0_pair 95 = .ok (.iconst 1, 1) := by decide +kernel
theorem dX0_pair_96 : decode cX0_pair 96 = .ok (.iload_n 1, 1) := by decide +kernel
theorem dX0_pair_97 : decode cX0_pair 97 = .ok (.ishl, 1) := by decide +kernel
theorem dX0_pair_98 : decode cX0_pair 98 = .ok (.iconst (-1), 1) := by decide +kernel
theorem dX0_pair_99 : decode cX0_pair 99 = .ok (.ixor, 1) := by decide +kernel
theorem dX0_pair_100 : decode cX0_pair 100 = .ok (.iand, 1) := by decide +kernel
theorem dX0_pair_101 : decode cX0_pair 101 = .ok (.istore 4, 2) := by decide +kernel
theorem dX0_pair_103 : decode cX0_pair 103 = .ok (.aload_n 0, 1) := by decide +kernel
theorem dX0_pair_104 : decode cX0_pair 104 = .ok (.getfield 21, 3) := by decide +kernel
theorem dX0_pair_107 : decode cX0_pair 107 = .ok (.iload_n 1, 1) := by decide +kernel
theorem dX0_pair_108 : decode cX0_pair 108 = .ok (.iconst (-1), 1) := by decide +kernel
theorem dX0_pair_109 : decode cX0_pair 109 = .ok (.iastore, 1) := by decide +kernel
theorem dX0_pair_110 : decode cX0_pair 110 = .ok (.aload_n 0, 1) := by decide +kernel
theorem dX0_pair_111 : decode cX0_pair 111 = .ok (.iload_n 1, 1) := by decide +kernel
theorem dX0_pair_112 : decode cX0_pair 112 = .ok (.iconst 1, 1) := by decide +kernel
theorem dX0_pair_113 : decode cX0_pair 113 = .ok (.iadd, 1) := by decide +kernel
theorem dX0_pair_114 : decode cX0_pair 114 = .ok (.iload_n 2, 1) := by decide +kernel
theorem dX0_pair_115 : decode cX0_pair 115 = .ok (.iload 4, 2) := by decide +kernel
theorem dX0_pair_117 : decode cX0_pair 117 = .ok (.invokevirtual 107, 3) := by decide +kernel
theorem dX0_pair_120 : decode cX0_pair 120 = .ok (.iload_n 1, 1) := by decide +kernel
theorem dX0_pair_121 : decode cX0_pair 121 = .ok (.iconst 1, 1) := by decide +kernel
theorem dX0_pair_122 : decode cX0_pair 122 = .ok (.iadd, 1) := by decide +kernel
theorem dX0_pair_123 : decode cX0_pair 123 = .ok (.istore 5, 2) := by decide +kernel
theorem dX0_pair_125 : decode cX0_pair 125 = .ok (.iload 5, 2) := by decide +kernel
theorem dX0_pair_127 : decode cX0_pair 127 = .ok (.aload_n 0, 1) := by decide +kernel
theorem dX0_pair_128 : decode cX0_pair 128 = .ok (.getfield 33, 3) := by decide +kernel
theorem dX0_pair_131 : decode cX0_pair 131 = .ok (.getfield 65, 3) := by decide +kernel
theorem dX0_pair_134 : decode cX0_pair 134 = .ok (.if_icmp .ge 63, 3) := by decide +kernel
theorem dX0_pair_137 : decode cX0_pair 137 = .ok (.iload 4, 2) := by decide +kernel
theorem dX0_pair_139 : decode cX0_pair 139 = .ok (.iload 5, 2) := by decide +kernel
theorem dX0_pair_141 : decode cX0_pair 141 = .ok (.iushr, 1) := by decide +kernel
theorem dX0_pair_142 : decode cX0_pair 142 = .ok (.iconst 1, 1) := by decide +kernel
theorem dX0_pair_143 : decode cX0_pair 143 = .ok (.iand, 1) := by decide +kernel
theorem dX0_pair_144 : decode cX0_pair 144 = .ok (.iconst 1, 1) := by decide +kernel
theorem dX0_pair_145 : decode cX0_pair 145 = .ok (.if_icmp .ne 46, 3) := by decide +kernel
theorem dX0_pair_148 : decode cX0_pair 148 = .ok (.aload_n 0, 1) := by decide +kernel
theorem dX0_pair_149 : decode cX0_pair 149 = .ok (.iload_n 1, 1) := by decide +kernel
theorem dX0_pair_150 : decode cX0_pair 150 = .ok (.iload 5, 2) := by decide +kernel
theorem dX0_pair_152 : decode cX0_pair 152 = .ok (.invokevirtual 82, 3) := by decide +kernel
theorem dX0_pair_155 : decode cX0_pair 155 = .ok (.ifCond .eq 36, 3) := by decide +kernel
theorem dX0_pair_158 : decode cX0_pair 158 = .ok (.aload_n 0, 1) := by decide +kernel
theorem dX0_pair_159 : decode cX0_pair 159 = .ok (.getfield 21, 3) := by decide +kernel
theorem dX0_pair_162 : decode cX0_pair 162 = .ok (.iload_n 1, 1) := by decide +kernel
theorem dX0_pair_163 : decode cX0_pair 163 = .ok (.iload 5, 2) := by decide +kernel
theorem dX0_pair_165 : decode cX0_pair 165 = .ok (.iastore, 1) := by decide +kernel
theorem dX0_pair_166 : decode cX0_pair 166 = .ok (.aload_n 0, 1) := by decide +kernel
theorem dX0_pair_167 : decode cX0_pair 167 = .ok (.getfield 21, 3) := by decide +kernel
theorem dX0_pair_170 : decode cX0_pair 170 = .ok (.iload 5, 2) := by decide +kernel
theorem dX0_pair_172 : decode cX0_pair 172 = .ok (.iload_n 1, 1) := by decide +kernel
theorem dX0_pair_173 : decode cX0_pair 173 = .ok (.iastore, 1) := by decide +kernel
theorem dX0_pair_174 : decode cX0_pair 174 = .ok (.aload_n 0, 1) := by decide +kernel
theorem dX0_pair_175 : decode cX0_pair 175 = .ok (.iload_n 1, 1) := by decide +kernel
theorem dX0_pair_176 : decode cX0_pair 176 = .ok (.iconst 1, 1) := by decide +kernel
theorem dX0_pair_177 : decode cX0_pair 177 = .ok (.iadd, 1) := by decide +kernel
theorem dX0_pair_178 : decode cX0_pair 178 = .ok (.iload_n 2, 1) := by decide +kernel
theorem dX0_pair_179 : decode cX0_pair 179 = .ok (.iload 4, 2) := by decide +kernel
theorem dX0_pair_181 : decode cX0_pair 181 = .ok (.iconst 1, 1) := by decide +kernel
theorem dX0_pair_182 : decode cX0_pair 182 = .ok (.iload 5, 2) := by decide +kernel
theorem dX0_pair_184 : decode cX0_pair 184 = .ok (.ishl, 1) := by decide +kernel
theorem dX0_pair_185 : decode cX0_pair 185 = .ok (.iconst (-1), 1) := by decide +kernel
theorem dX0_pair_186 : decode cX0_pair 186 = .ok (.ixor, 1) := by decide +kernel
theorem dX0_pair_187 : decode cX0_pair 187 = .ok (.iand, 1) := by decide +kernel
theorem dX0_pair_188 : decode cX0_pair 188 = .ok (.invokevirtual 107, 3) := by decide +kernel
theorem dX0_pair_191 : decode cX0_pair 191 = .ok (.iinc 5 1, 3) := by decide +kernel
theorem dX0_pair_194 : decode cX0_pair 194 = .ok (.goto (-69), 3) := by decide +kernel
theorem dX0_pair_197 : decode cX0_pair 197 = .ok (.return_, 1) := by decide +kernel
def f_X0_pair_21 (q_X0_pair : Int32 → Int32 → Int32 → zS → Option (Unit × zS))  (s : zS) : Option (Unit × zS) :=
  some ((), s)
set_option maxRecDepth 20000 in
theorem b_X0_pair_21 {X : zX} {dd : Nat} {q_X0_pair : Int32 → Int32 → Int32 → zS → Option (Unit × zS)} (hX : zx_ok X cX0_pair RX0 6) (hT : zx_rt X none (zR (3 + dd + 1) (70 + (dd + 1) * 25))) (hq_X0_pair : ∀ (v1 : Int32) (v2 : Int32) (v3 : Int32) (s : zS), zM (zx_Y X) yX0_pair cX0_pair 6 none (zR (3 + dd) (70 + dd * 25)) [.ref (zx_ad X 60), .int v1, .int v2, .int v3] s zrV (q_X0_pair v1 v2 v3 s)) : ∀  (s : zS), zV X (zq X zrV) 6 21 [] [] s (f_X0_pair_21 q_X0_pair  s) := by
  have hDP : zDP = 64 := rfl
  intro  s
  unfold f_X0_pair_21
  exact zv_vret hX hT dX0_pair_21
def f_X0_pair_75 (q_X0_pair : Int32 → Int32 → Int32 → zS → Option (Unit × zS))  (s : zS) : Option (Unit × zS) :=
  some ((), s)
set_option maxRecDepth 20000 in
theorem b_X0_pair_75 {X : zX} {dd : Nat} {q_X0_pair : Int32 → Int32 → Int32 → zS → Option (Unit × zS)} (hX : zx_ok X cX0_pair RX0 6) (hT : zx_rt X none (zR (3 + dd + 1) (70 + (dd + 1) * 25))) (hq_X0_pair : ∀ (v1 : Int32) (v2 : Int32) (v3 : Int32) (s : zS), zM (zx_Y X) yX0_pair cX0_pair 6 none (zR (3 + dd) (70 + dd * 25)) [.ref (zx_ad X 60), .int v1, .int v2, .int v3] s zrV (q_X0_pair v1 v2 v3 s)) : ∀  (s : zS), zV X (zq X zrV) 6 75 [] [] s (f_X0_pair_75 q_X0_pair  s) := by
  have hDP : zDP = 64 := rfl
  intro  s
  unfold f_X0_pair_75
  exact zv_vret hX hT dX0_pair_75
def f_X0_pair_39 (q_X0_pair : Int32 → Int32 → Int32 → zS → Option (Unit × zS)) (v2 : Int32) (s : zS) : Option (Unit × zS) :=
  zbd (f_X0_holdsAmong 64 v2 s) fun r1 s2 =>
  if r1 = 0 then
  (f_X0_pair_75 q_X0_pair s2)
  else
  zbd (f_X0_packed v2 s2) fun r3 s4 =>
  (zw_i s4 65 (s2.1 60 8) r3).bind fun s5 =>
  zb (zs_i s5 60 8 ((s5.1 60 8) + (1 : Int32))) fun s6 =>
  f_X0_pair_75 q_X0_pair s6
set_option maxRecDepth 20000 in
theorem b_X0_pair_39 {X : zX} {dd : Nat} {q_X0_pair : Int32 → Int32 → Int32 → zS → Option (Unit × zS)} (hX : zx_ok X cX0_pair RX0 6) (hT : zx_rt X none (zR (3 + dd + 1) (70 + (dd + 1) * 25))) (hq_X0_pair : ∀ (v1 : Int32) (v2 : Int32) (v3 : Int32) (s : zS), zM (zx_Y X) yX0_pair cX0_pair 6 none (zR (3 + dd) (70 + dd * 25)) [.ref (zx_ad X 60), .int v1, .int v2, .int v3] s zrV (q_X0_pair v1 v2 v3 s)) : ∀ (v2 : Int32) (s : zS), zV X (zq X zrV) 6 39 [(0, .ref (zx_ad X 60)), (2, .int v2)] [] s (f_X0_pair_39 q_X0_pair v2 s) := by
  have hDP : zDP = 64 := rfl
  intro v2 s
  unfold f_X0_pair_39
  refine zv_aload_n hX dX0_pair_39 0 rfl ?_
  refine zv_aload_n hX dX0_pair_40 0 rfl ?_
  refine zv_geta hX wf_X0_21 wc_0 zd_60 zj_60_6 c9_0 zr_60_6 (by decide) dX0_pair_41 ?_
  refine zv_iload_n hX dX0_pair_44 1 rfl ?_
  refine zv_cVI [.ref (zx_ad X 64), .int v2] (rest := []) hX hT.2.2.2.2 (c_X0_holdsAmong (zx_Y X) 64 v2 s) wv_X0_holdsAmong c9_0 zd_60 wm_X0_111 rfl (by omega) (by omega) rfl (Nat.le_of_ble_eq_true rfl) dX0_pair_45 (fun r1 s2 => ?_)
  refine zv_if_eq (tgt := 75) hX dX0_pair_48 rfl ?_ ?_
  · exact zv_sub [] rfl (b_X0_pair_75 hX hT hq_X0_pair  s2)
  · refine zv_aload_n hX dX0_pair_51 0 rfl ?_
    refine zv_geta hX wf_X0_24 wc_0 zd_60 zj_60_7 c9_0 zr_60_7 (by decide) dX0_pair_52 ?_
    refine zv_aload_n hX dX0_pair_55 0 rfl ?_
    refine zv_geti hX wf_X0_101 wc_0 zd_60 zj_60_8 c9_0 zr_60_8 dX0_pair_56 ?_
    refine zv_aload_n hX dX0_pair_59 0 rfl ?_
    refine zv_iload_n hX dX0_pair_60 1 rfl ?_
    refine zv_cVI [.int v2] (rest := [.int (s2.1 60 8), .ref (zx_ad X 65)]) hX hT.2.2.2.2 (c_X0_packed (zx_Y X) v2 s2) wv_X0_packed c9_0 zd_60 wm_X0_115 rfl (by omega) (by omega) rfl (Nat.le_of_ble_eq_true rfl) dX0_pair_61 (fun r3 s4 => ?_)
    refine zv_iast hX dX0_pair_64 (fun s5 => ?_)
    refine zv_aload_n hX dX0_pair_65 0 rfl ?_
    refine zv_dup hX dX0_pair_66 rfl ?_
    refine zv_geti hX wf_X0_101 wc_0 zd_60 zj_60_8 c9_0 zr_60_8 dX0_pair_67 ?_
    refine zv_iconst (v := (1 : Int32)) hX dX0_pair_70 zi_i_1 ?_
    refine zv_iadd hX dX0_pair_71 ?_
    refine zv_puti hX wf_X0_101 wc_0 wk_0_8 zd_60 zj_60_8 c9_0 zr_60_8 dX0_pair_72 (fun s6 => ?_)
    exact zv_sub [] rfl (b_X0_pair_75 hX hT hq_X0_pair  s6)
def f_X0_pair_191 (q_X0_pair : Int32 → Int32 → Int32 → zS → Option (Unit × zS)) (kb_125 : Int32 → Int32 → Int32 → Int32 → zS → Option (Unit × zS)) (v1 : Int32) (v2 : Int32) (v4 : Int32) (v5 : Int32) (s : zS) : Option (Unit × zS) :=
  zb (v5 + (1 : Int32)) fun x7 =>
  kb_125 v1 v2 v4 x7 s
set_option maxRecDepth 20000 in
theorem b_X0_pair_191 {X : zX} {dd : Nat} {q_X0_pair : Int32 → Int32 → Int32 → zS → Option (Unit × zS)} {kb_125 : Int32 → Int32 → Int32 → Int32 → zS → Option (Unit × zS)} (hX : zx_ok X cX0_pair RX0 6) (hT : zx_rt X none (zR (3 + dd + 1) (70 + (dd + 1) * 25))) (hq_X0_pair : ∀ (v1 : Int32) (v2 : Int32) (v3 : Int32) (s : zS), zM (zx_Y X) yX0_pair cX0_pair 6 none (zR (3 + dd) (70 + dd * 25)) [.ref (zx_ad X 60), .int v1, .int v2, .int v3] s zrV (q_X0_pair v1 v2 v3 s)) (hk_125 : ∀ (v1 : Int32) (v2 : Int32) (v4 : Int32) (v5 : Int32) (s : zS), zV X (zq X zrV) 6 125 [(0, .ref (zx_ad X 60)), (1, .int v1), (2, .int v2), (4, .int v4), (5, .int v5)] [] s (kb_125 v1 v2 v4 v5 s)) : ∀ (v1 : Int32) (v2 : Int32) (v4 : Int32) (v5 : Int32) (s : zS), zV X (zq X zrV) 6 191 [(0, .ref (zx_ad X 60)), (1, .int v1), (2, .int v2), (4, .int v4), (5, .int v5)] [] s (f_X0_pair_191 q_X0_pair kb_125 v1 v2 v4 v5 s) := by
  have hDP : zDP = 64 := rfl
  intro v1 v2 v4 v5 s
  unfold f_X0_pair_191
  refine zv_iincB (lw := fun x7 => [(5, .int x7), (0, .ref (zx_ad X 60)), (1, .int v1), (2, .int v2), (4, .int v4)]) hX dX0_pair_191 4 rfl zi_i_1 (by decide) (fun _ => rfl) (fun x7 => ?_)
  refine zv_goto (tgt := 125) hX dX0_pair_194 rfl ?_
  exact zv_sub [1, 2, 3, 4, 0] rfl (hk_125 v1 v2 v4 x7 s)
def f_X0_pair_125 (q_X0_pair : Int32 → Int32 → Int32 → zS → Option (Unit × zS)) : Nat → Int32 → Int32 → Int32 → Int32 → zS → Option (Unit × zS)
  | 0, _, _, _, _, _ => none
  | n + 1, v1, v2, v4, v5, s =>
    if (s.1 3 0) ≤ v5 then
    (some ((), s))
    else
    if ¬ ((zo_ush v4 v5) &&& (1 : Int32)) = (1 : Int32) then
    (f_X0_pair_191 q_X0_pair (f_X0_pair_125 q_X0_pair n) v1 v2 v4 v5 s)
    else
    zbd (f_X0_areKnownToMatch v1 v5 s) fun r8 s9 =>
    if r8 = 0 then
    (f_X0_pair_191 q_X0_pair (f_X0_pair_125 q_X0_pair n) v1 v2 v4 v5 s9)
    else
    (zw_i s9 64 v1 v5).bind fun s10 =>
    (zw_i s10 64 v5 v1).bind fun s11 =>
    zbd (q_X0_pair (v1 + (1 : Int32)) v2 (v4 &&& ((zo_shl (1 : Int32) v5) ^^^ (-1 : Int32))) s11) fun _ s12 =>
    f_X0_pair_191 q_X0_pair (f_X0_pair_125 q_X0_pair n) v1 v2 v4 v5 s12
set_option maxRecDepth 20000 in
theorem b_X0_pair_125 {X : zX} {dd : Nat} {q_X0_pair : Int32 → Int32 → Int32 → zS → Option (Unit × zS)} (hX : zx_ok X cX0_pair RX0 6) (hT : zx_rt X none (zR (3 + dd + 1) (70 + (dd + 1) * 25))) (hq_X0_pair : ∀ (v1 : Int32) (v2 : Int32) (v3 : Int32) (s : zS), zM (zx_Y X) yX0_pair cX0_pair 6 none (zR (3 + dd) (70 + dd * 25)) [.ref (zx_ad X 60), .int v1, .int v2, .int v3] s zrV (q_X0_pair v1 v2 v3 s)) : ∀ (n : Nat) (v1 : Int32) (v2 : Int32) (v4 : Int32) (v5 : Int32) (s : zS), zV X (zq X zrV) 6 125 [(0, .ref (zx_ad X 60)), (1, .int v1), (2, .int v2), (4, .int v4), (5, .int v5)] [] s (f_X0_pair_125 q_X0_pair n v1 v2 v4 v5 s) := by
  have hDP : zDP = 64 := rfl
  intro n
  induction n with
  | zero => intro v1 v2 v4 v5 s; exact zv_none
  | succ n ih =>
    intro v1 v2 v4 v5 s
    rw [f_X0_pair_125]
    refine zv_iload hX dX0_pair_125 4 rfl ?_
    refine zv_aload_n hX dX0_pair_127 0 rfl ?_
    refine zv_geta hX wf_X0_33 wc_0 zd_60 zj_60_0 c9_0 zr_60_0 (by decide) dX0_pair_128 ?_
    refine zv_geti hX wf_X0_65 wc_5 zd_3 zj_3_0 c9_5 zr_3_0 dX0_pair_131 ?_
    refine zv_icmp_ge (tgt := 197) hX dX0_pair_134 rfl ?_ ?_
    · exact zv_vret hX hT dX0_pair_197
    · refine zv_iload hX dX0_pair_137 3 rfl ?_
      refine zv_iload hX dX0_pair_139 4 rfl ?_
      refine zv_iushr hX dX0_pair_141 ?_
      refine zv_iconst (v := (1 : Int32)) hX dX0_pair_142 zi_i_1 ?_
      refine zv_iand hX dX0_pair_143 ?_
      refine zv_iconst (v := (1 : Int32)) hX dX0_pair_144 zi_i_1 ?_
      refine zv_icmp_ne (tgt := 191) hX dX0_pair_145 rfl ?_ ?_
      · exact b_X0_pair_191 hX hT hq_X0_pair ih v1 v2 v4 v5 s
      · refine zv_aload_n hX dX0_pair_148 0 rfl ?_
        refine zv_iload_n hX dX0_pair_149 1 rfl ?_
        refine zv_iload hX dX0_pair_150 4 rfl ?_
        refine zv_cVI [.int v1, .int v5] (rest := []) hX hT.2.2.2.2 (c_X0_areKnownToMatch (zx_Y X) v1 v5 s) wv_X0_areKnownToMatch c9_0 zd_60 wm_X0_82 rfl (by omega) (by omega) rfl (Nat.le_of_ble_eq_true rfl) dX0_pair_152 (fun r8 s9 => ?_)
        refine zv_if_eq (tgt := 191) hX dX0_pair_155 rfl ?_ ?_
        · exact b_X0_pair_191 hX hT hq_X0_pair ih v1 v2 v4 v5 s9
        · refine zv_aload_n hX dX0_pair_158 0 rfl ?_
          refine zv_geta hX wf_X0_21 wc_0 zd_60 zj_60_6 c9_0 zr_60_6 (by decide) dX0_pair_159 ?_
          refine zv_iload_n hX dX0_pair_162 1 rfl ?_
          refine zv_iload hX dX0_pair_163 4 rfl ?_
          refine zv_iast hX dX0_pair_165 (fun s10 => ?_)
          refine zv_aload_n hX dX0_pair_166 0 rfl ?_
          refine zv_geta hX wf_X0_21 wc_0 zd_60 zj_60_6 c9_0 zr_60_6 (by decide) dX0_pair_167 ?_
          refine zv_iload hX dX0_pair_170 4 rfl ?_
          refine zv_iload_n hX dX0_pair_172 1 rfl ?_
          refine zv_iast hX dX0_pair_173 (fun s11 => ?_)
          refine zv_aload_n hX dX0_pair_174 0 rfl ?_
          refine zv_iload_n hX dX0_pair_175 1 rfl ?_
          refine zv_iconst (v := (1 : Int32)) hX dX0_pair_176 zi_i_1 ?_
          refine zv_iadd hX dX0_pair_177 ?_
          refine zv_iload_n hX dX0_pair_178 2 rfl ?_
          refine zv_iload hX dX0_pair_179 3 rfl ?_
          refine zv_iconst (v := (1 : Int32)) hX dX0_pair_181 zi_i_1 ?_
          refine zv_iload hX dX0_pair_182 4 rfl ?_
          refine zv_ishl hX dX0_pair_184 ?_
          refine zv_iconst (v := (-1 : Int32)) hX dX0_pair_185 zi_i_m1 ?_
          refine zv_ixor hX dX0_pair_186 ?_
          refine zv_iand hX dX0_pair_187 ?_
          refine zv_cVV [.int (v1 + (1 : Int32)), .int v2, .int (v4 &&& ((zo_shl (1 : Int32) v5) ^^^ (-1 : Int32)))] (rest := []) hX hT.2.2.2.2 (hq_X0_pair (v1 + (1 : Int32)) v2 (v4 &&& ((zo_shl (1 : Int32) v5) ^^^ (-1 : Int32))) s11) wv_X0_pair c9_0 zd_60 wm_X0_107 rfl (by omega) (by omega) rfl (Nat.le_of_ble_eq_true rfl) dX0_pair_188 (fun _ s12 => ?_)
          exact b_X0_pair_191 hX hT hq_X0_pair ih v1 v2 v4 v5 s12
def g_X0_pair (q_X0_pair : Int32 → Int32 → Int32 → zS → Option (Unit × zS)) (v1 : Int32) (v2 : Int32) (v3 : Int32) (s : zS) : Option (Unit × zS) :=
  if (s.1 60 9) ≤ (s.1 60 8) then
  (f_X0_pair_21 q_X0_pair s)
  else
  if (s.1 60 8) < (nI 232) then
  (if (s.1 3 0) ≤ v1 then
  (f_X0_pair_39 q_X0_pair v2 s)
  else
  if v1 < (nI 7) then
  (if ¬ ((zo_ush v3 v1) &&& (1 : Int32)) = 0 then
  (zb (v3 &&& ((zo_shl (1 : Int32) v1) ^^^ (-1 : Int32))) fun x13 =>
  (zw_i s 64 v1 (-1 : Int32)).bind fun s14 =>
  zbd (q_X0_pair (v1 + (1 : Int32)) v2 x13 s14) fun _ s15 =>
  zb (v1 + (1 : Int32)) fun x16 =>
  f_X0_pair_125 q_X0_pair zFU v1 v2 x13 x16 s15)
  else
  zbd (q_X0_pair (v1 + (1 : Int32)) v2 v3 s) fun _ s17 =>
  some ((), s17))
  else
  f_X0_pair_39 q_X0_pair v2 s)
  else
  f_X0_pair_21 q_X0_pair s
set_option maxRecDepth 20000 in
theorem e_X0_pair {X : zX} {dd : Nat} {q_X0_pair : Int32 → Int32 → Int32 → zS → Option (Unit × zS)} (hX : zx_ok X cX0_pair RX0 6) (hT : zx_rt X none (zR (3 + dd + 1) (70 + (dd + 1) * 25))) (hq_X0_pair : ∀ (v1 : Int32) (v2 : Int32) (v3 : Int32) (s : zS), zM (zx_Y X) yX0_pair cX0_pair 6 none (zR (3 + dd) (70 + dd * 25)) [.ref (zx_ad X 60), .int v1, .int v2, .int v3] s zrV (q_X0_pair v1 v2 v3 s)) : ∀ (v1 : Int32) (v2 : Int32) (v3 : Int32) (s : zS), zV X (zq X zrV) 6 0 [(0, .ref (zx_ad X 60)), (1, .int v1), (2, .int v2), (3, .int v3)] [] s (g_X0_pair q_X0_pair v1 v2 v3 s) := by
  have hDP : zDP = 64 := rfl
  intro v1 v2 v3 s
  unfold g_X0_pair
  refine zv_aload_n hX dX0_pair_0 0 rfl ?_
  refine zv_geti hX wf_X0_101 wc_0 zd_60 zj_60_8 c9_0 zr_60_8 dX0_pair_1 ?_
  refine zv_aload_n hX dX0_pair_4 0 rfl ?_
  refine zv_geti hX wf_X0_104 wc_0 zd_60 zj_60_9 c9_0 zr_60_9 dX0_pair_5 ?_
  refine zv_icmp_ge (tgt := 21) hX dX0_pair_8 rfl ?_ ?_
  · exact zv_sub [] rfl (b_X0_pair_21 hX hT hq_X0_pair  s)
  · refine zv_aload_n hX dX0_pair_11 0 rfl ?_
    refine zv_geti hX wf_X0_101 wc_0 zd_60 zj_60_8 c9_0 zr_60_8 dX0_pair_12 ?_
    refine zv_sipush (v := (nI 232)) hX dX0_pair_15 zi_s_232 ?_
    refine zv_icmp_lt (tgt := 22) hX dX0_pair_18 rfl ?_ ?_
    · refine zv_iload_n hX dX0_pair_22 1 rfl ?_
      refine zv_aload_n hX dX0_pair_23 0 rfl ?_
      refine zv_geta hX wf_X0_33 wc_0 zd_60 zj_60_0 c9_0 zr_60_0 (by decide) dX0_pair_24 ?_
      refine zv_geti hX wf_X0_65 wc_5 zd_3 zj_3_0 c9_5 zr_3_0 dX0_pair_27 ?_
      refine zv_icmp_ge (tgt := 39) hX dX0_pair_30 rfl ?_ ?_
      · exact zv_sub [0, 2] rfl (b_X0_pair_39 hX hT hq_X0_pair v2 s)
      · refine zv_iload_n hX dX0_pair_33 1 rfl ?_
        refine zv_bipush (v := (nI 7)) hX dX0_pair_34 zi_b_7 ?_
        refine zv_icmp_lt (tgt := 76) hX dX0_pair_36 rfl ?_ ?_
        · refine zv_iload_n hX dX0_pair_76 3 rfl ?_
          refine zv_iload_n hX dX0_pair_77 1 rfl ?_
          refine zv_iushr hX dX0_pair_78 ?_
          refine zv_iconst (v := (1 : Int32)) hX dX0_pair_79 zi_i_1 ?_
          refine zv_iand hX dX0_pair_80 ?_
          refine zv_if_ne (tgt := 94) hX dX0_pair_81 rfl ?_ ?_
          · refine zv_iload_n hX dX0_pair_94 3 rfl ?_
            refine zv_iconst (v := (1 : Int32)) hX dX0_pair_95 zi_i_1 ?_
            refine zv_iload_n hX dX0_pair_96 1 rfl ?_
            refine zv_ishl hX dX0_pair_97 ?_
            refine zv_iconst (v := (-1 : Int32)) hX dX0_pair_98 zi_i_m1 ?_
            refine zv_ixor hX dX0_pair_99 ?_
            refine zv_iand hX dX0_pair_100 ?_
            refine zv_istB (lw := fun x13 => [(4, .int x13), (0, .ref (zx_ad X 60)), (1, .int v1), (2, .int v2), (3, .int v3)]) hX dX0_pair_101 (by decide) (fun _ => rfl) (fun x13 => ?_)
            refine zv_aload_n hX dX0_pair_103 1 rfl ?_
            refine zv_geta hX wf_X0_21 wc_0 zd_60 zj_60_6 c9_0 zr_60_6 (by decide) dX0_pair_104 ?_
            refine zv_iload_n hX dX0_pair_107 2 rfl ?_
            refine zv_iconst (v := (-1 : Int32)) hX dX0_pair_108 zi_i_m1 ?_
            refine zv_iast hX dX0_pair_109 (fun s14 => ?_)
            refine zv_aload_n hX dX0_pair_110 1 rfl ?_
            refine zv_iload_n hX dX0_pair_111 2 rfl ?_
            refine zv_iconst (v := (1 : Int32)) hX dX0_pair_112 zi_i_1 ?_
            refine zv_iadd hX dX0_pair_113 ?_
            refine zv_iload_n hX dX0_pair_114 3 rfl ?_
            refine zv_iload hX dX0_pair_115 0 rfl ?_
            refine zv_cVV [.int (v1 + (1 : Int32)), .int v2, .int x13] (rest := []) hX hT.2.2.2.2 (hq_X0_pair (v1 + (1 : Int32)) v2 x13 s14) wv_X0_pair c9_0 zd_60 wm_X0_107 rfl (by omega) (by omega) rfl (Nat.le_of_ble_eq_true rfl) dX0_pair_117 (fun _ s15 => ?_)
            refine zv_iload_n hX dX0_pair_120 2 rfl ?_
            refine zv_iconst (v := (1 : Int32)) hX dX0_pair_121 zi_i_1 ?_
            refine zv_iadd hX dX0_pair_122 ?_
            refine zv_istB (lw := fun x16 => [(5, .int x16), (4, .int x13), (0, .ref (zx_ad X 60)), (1, .int v1), (2, .int v2), (3, .int v3)]) hX dX0_pair_123 (by decide) (fun _ => rfl) (fun x16 => ?_)
            exact zv_sub [2, 3, 4, 1, 0] rfl (b_X0_pair_125 hX hT hq_X0_pair zFU v1 v2 x13 x16 s15)
          · refine zv_aload_n hX dX0_pair_84 0 rfl ?_
            refine zv_iload_n hX dX0_pair_85 1 rfl ?_
            refine zv_iconst (v := (1 : Int32)) hX dX0_pair_86 zi_i_1 ?_
            refine zv_iadd hX dX0_pair_87 ?_
            refine zv_iload_n hX dX0_pair_88 2 rfl ?_
            refine zv_iload_n hX dX0_pair_89 3 rfl ?_
            refine zv_cVV [.int (v1 + (1 : Int32)), .int v2, .int v3] (rest := []) hX hT.2.2.2.2 (hq_X0_pair (v1 + (1 : Int32)) v2 v3 s) wv_X0_pair c9_0 zd_60 wm_X0_107 rfl (by omega) (by omega) rfl (Nat.le_of_ble_eq_true rfl) dX0_pair_90 (fun _ s17 => ?_)
            exact zv_vret hX hT dX0_pair_93
        · exact zv_sub [0, 2] rfl (b_X0_pair_39 hX hT hq_X0_pair v2 s)
    · exact zv_sub [] rfl (b_X0_pair_21 hX hT hq_X0_pair  s)
def f_X0_pair : Nat → Int32 → Int32 → Int32 → zS → Option (Unit × zS)
  | 0, _, _, _, _ => none
  | d + 1, v1, v2, v3, s => g_X0_pair (f_X0_pair d) v1 v2 v3 s
theorem c_X0_pair (Y : zG) : ∀ (d : Nat) (v1 : Int32) (v2 : Int32) (v3 : Int32) (s : zS), zM Y yX0_pair cX0_pair 6 none (zR (3 + d) (70 + d * 25)) [.ref (zy_a Y 60), .int v1, .int v2, .int v3] s zrV (f_X0_pair d v1 v2 v3 s) := by
  intro d
  induction d with
  | zero => intro v1 v2 v3 s rr h; cases h
  | succ d ih =>
    intro v1 v2 v3 s
    refine zm_start (by decide +kernel) (Nat.le_of_ble_eq_true rfl) ?_
    intro X hY hT hX
    subst hY
    have hX : zx_ok X cX0_pair RX0 6 := hX
    show zV X (zq X zrV) 6 0 [(0, .ref (zx_ad X 60)), (1, .int v1), (2, .int v2), (3, .int v3)] [] s (g_X0_pair (f_X0_pair d) v1 v2 v3 s)
    exact e_X0_pair (dd := d) hX hT ih v1 v2 v3 s
theorem dX0_findPairings_0 : decode cX0_findPairings 0 = .ok (.aload_n 0, 1) := by decide +kernel
theorem dX0_findPairings_1 : decode cX0_findPairings 1 = .ok (.iconst 0, 1) := by decide +kernel
theorem dX0_findPairings_2 : decode cX0_findPairings 2 = .ok (.putfield 92, 3) := by decide +kernel
theorem dX0_findPairings_5 : decode cX0_findPairings 5 = .ok (.aload_n 0, 1) := by decide +kernel
theorem dX0_findPairings_6 : decode cX0_findPairings 6 = .ok (.iconst 0, 1) := by decide +kernel
theorem dX0_findPairings_7 : decode cX0_findPairings 7 = .ok (.putfield 101, 3) := by decide +kernel
theorem dX0_findPairings_10 : decode cX0_findPairings 10 = .ok (.aload_n 0, 1) := by decide +kernel
theorem dX0_findPairings_11 : decode cX0_findPairings 11 = .ok (.iload_n 2, 1) := by decide +kernel
theorem dX0_findPairings_12 : decode cX0_findPairings 12 = .ok (.putfield 104, 3) := by decide +kernel
theorem dX0_findPairings_15 : decode cX0_findPairings 15 = .ok (.aload_n 0, 1) := by decide +kernel
theorem dX0_findPairings_16 : decode cX0_findPairings 16 = .ok (.iconst 0, 1) := by decide +kernel
theorem dX0_findPairings_17 : decode cX0_findPairings 17 = .ok (.iload_n 1, 1) := by decide +kernel
theorem dX0_findPairings_18 : decode cX0_findPairings 18 = .ok (.iload_n 1, 1) := by decide +kernel
theorem dX0_findPairings_19 : decode cX0_findPairings 19 = .ok (.invokevirtual 107, 3) := by decide +kernel
theorem dX0_findPairings_22 : decode cX0_findPairings 22 = .ok (.return_, 1) := by decide +kernel
def f_X0_findPairings (v1 : Int32) (v2 : Int32) (s : zS) : Option (Unit × zS) :=
  zb (zs_i s 60 10 (0 : Int32)) fun s1 =>
  zb (zs_i s1 60 8 (0 : Int32)) fun s2 =>
  zb (zs_i s2 60 9 v2) fun s3 =>
  zbd (f_X0_pair zDP (0 : Int32) v1 v1 s3) fun _ s4 =>
  some ((), s4)
set_option maxRecDepth 20000 in
theorem c_X0_findPairings (Y : zG) (v1 : Int32) (v2 : Int32) (s : zS) : zM Y yX0_findPairings cX0_findPairings 3 none (zR 68 1695) [.ref (zy_a Y 60), .int v1, .int v2] s zrV (f_X0_findPairings v1 v2 s) := by
  refine zm_start (by decide +kernel) (Nat.le_of_ble_eq_true rfl) ?_
  intro X hY hT hX
  subst hY
  have hX : zx_ok X cX0_findPairings RX0 3 := hX
  show zV X (zq X zrV) 3 0 [(0, .ref (zx_ad X 60)), (1, .int v1), (2, .int v2)] [] s _
  unfold f_X0_findPairings
  refine zv_aload_n hX dX0_findPairings_0 0 rfl ?_
  refine zv_iconst (v := (0 : Int32)) hX dX0_findPairings_1 zi_i_0 ?_
  refine zv_puti hX wf_X0_92 wc_0 wk_0_10 zd_60 zj_60_10 c9_0 zr_60_10 dX0_findPairings_2 (fun s1 => ?_)
  refine zv_aload_n hX dX0_findPairings_5 0 rfl ?_
  refine zv_iconst (v := (0 : Int32)) hX dX0_findPairings_6 zi_i_0 ?_
  refine zv_puti hX wf_X0_101 wc_0 wk_0_8 zd_60 zj_60_8 c9_0 zr_60_8 dX0_findPairings_7 (fun s2 => ?_)
  refine zv_aload_n hX dX0_findPairings_10 0 rfl ?_
  refine zv_iload_n hX dX0_findPairings_11 2 rfl ?_
  refine zv_puti hX wf_X0_104 wc_0 wk_0_9 zd_60 zj_60_9 c9_0 zr_60_9 dX0_findPairings_12 (fun s3 => ?_)
  refine zv_aload_n hX dX0_findPairings_15 0 rfl ?_
  refine zv_iconst (v := (0 : Int32)) hX dX0_findPairings_16 zi_i_0 ?_
  refine zv_iload_n hX dX0_findPairings_17 1 rfl ?_
  refine zv_iload_n hX dX0_findPairings_18 1 rfl ?_
  refine zv_cVV [.int (0 : Int32), .int v1, .int v1] (rest := []) hX hT.2.2.2.2 (c_X0_pair (zx_Y X) zDP (0 : Int32) v1 v1 s3) wv_X0_pair c9_0 zd_60 wm_X0_107 rfl (Nat.le_of_ble_eq_true rfl) (Nat.le_of_ble_eq_true rfl) rfl (Nat.le_of_ble_eq_true rfl) dX0_findPairings_19 (fun _ s4 => ?_)
  exact zv_vret hX hT dX0_findPairings_22
theorem dX0_isTriangle_0 : decode cX0_isTriangle 0 = .ok (.aload_n 0, 1) := by decide +kernel
theorem dX0_isTriangle_1 : decode cX0_isTriangle 1 = .ok (.iload_n 1, 1) := by decide +kernel
theorem dX0_isTriangle_2 : decode cX0_isTriangle 2 = .ok (.iload_n 2, 1) := by decide +kernel
theorem dX0_isTriangle_3 : decode cX0_isTriangle 3 = .ok (.invokevirtual 82, 3) := by decide +kernel
theorem dX0_isTriangle_6 : decode cX0_isTriangle 6 = .ok (.ifCond .eq 55, 3) := by decide +kernel
theorem dX0_isTriangle_9 : decode cX0_isTriangle 9 = .ok (.aload_n 0, 1) := by decide +kernel
theorem dX0_isTriangle_10 : decode cX0_isTriangle 10 = .ok (.iload_n 2, 1) := by decide +kernel
theorem dX0_isTriangle_11 : decode cX0_isTriangle 11 = .ok (.iload_n 3, 1) := by decide +kernel
theorem dX0_isTriangle_12 : decode cX0_isTriangle 12 = .ok (.invokevirtual 82, 3) := by decide +kernel
theorem dX0_isTriangle_15 : decode cX0_isTriangle 15 = .ok (.ifCond .eq 46, 3) := by decide +kernel
theorem dX0_isTriangle_18 : decode cX0_isTriangle 18 = .ok (.aload_n 0, 1) := by decide +kernel
theorem dX0_isTriangle_19 : decode cX0_isTriangle 19 = .ok (.iload_n 3, 1) := by decide +kernel
theorem dX0_isTriangle_20 : decode cX0_isTriangle 20 = .ok (.iload_n 1, 1) := by decide +kernel
theorem dX0_isTriangle_21 : decode cX0_isTriangle 21 = .ok (.invokevirtual 82, 3) := by decide +kernel
theorem dX0_isTriangle_24 : decode cX0_isTriangle 24 = .ok (.ifCond .eq 37, 3) := by decide +kernel
theorem dX0_isTriangle_27 : decode cX0_isTriangle 27 = .ok (.aload_n 0, 1) := by decide +kernel
theorem dX0_isTriangle_28 : decode cX0_isTriangle 28 = .ok (.iload_n 1, 1) := by decide +kernel
theorem dX0_isTriangle_29 : decode cX0_isTriangle 29 = .ok (.iload_n 2, 1) := by decide +kernel
theorem dX0_isTriangle_30 : decode cX0_isTriangle 30 = .ok (.iload_n 3, 1) := by decide +kernel
theorem dX0_isTriangle_31 : decode cX0_isTriangle 31 = .ok (.invokevirtual 85, 3) := by decide +kernel
theorem dX0_isTriangle_34 : decode cX0_isTriangle 34 = .ok (.ifCond .eq 27, 3) := by decide +kernel
theorem dX0_isTriangle_37 : decode cX0_isTriangle 37 = .ok (.aload_n 0, 1) := by decide +kernel
theorem dX0_isTriangle_38 : decode cX0_isTriangle 38 = .ok (.iload_n 2, 1) := by decide +kernel
theorem dX0_isTriangle_39 : decode cX0_isTriangle 39 = .ok (.iload_n 3, 1) := by decide +kernel
theorem dX0_isTriangle_40 : decode cX0_isTriangle 40 = .ok (.iload_n 1, 1) := by decide +kernel
theorem dX0_isTriangle_41 : decode cX0_isTriangle 41 = .ok (.invokevirtual 85, 3) := by decide +kernel
theorem dX0_isTriangle_44 : decode cX0_isTriangle 44 = .ok (.ifCond .eq 17, 3) := by decide +kernel
theorem dX0_isTriangle_47 : decode cX0_isTriangle 47 = .ok (.aload_n 0, 1) := by decide +kernel
theorem dX0_isTriangle_48 : decode cX0_isTriangle 48 = .ok (.iload_n 3, 1) := by decide +kernel
theorem dX0_isTriangle_49 : decode cX0_isTriangle 49 = .ok (.iload_n 1, 1) := by decide +kernel
theorem dX0_isTriangle_50 : decode cX0_isTriangle 50 = .ok (.iload_n 2, 1) := by decide +kernel
theorem dX0_isTriangle_51 : decode cX0_isTriangle 51 = .ok (.invokevirtual 85, 3) := by decide +kernel
theorem dX0_isTriangle_54 : decode cX0_isTriangle 54 = .ok (.ifCond .eq 7, 3) := by decide +kernel
theorem dX0_isTriangle_57 : decode cX0_isTriangle 57 = .ok (.iconst 1, 1) := by decide +kernel
theorem dX0_isTriangle_58 : decode cX0_isTriangle 58 = .ok (.goto 4, 3) := by decide +kernel
theorem dX0_isTriangle_61 : decode cX0_isTriangle 61 = .ok (.iconst 0, 1) := by decide +kernel
theorem dX0_isTriangle_62 : decode cX0_isTriangle 62 = .ok (.ireturn, 1) := by decide +kernel
def f_X0_isTriangle_62 (w0 : Int32) (s : zS) : Option (Int32 × zS) :=
  if w0 = 0 ∨ w0 = 1 then some (w0, s) else none
set_option maxRecDepth 20000 in
theorem b_X0_isTriangle_62 {X : zX} (hX : zx_ok X cX0_isTriangle RX0 4) (hT : zx_rt X (some .boolean) (zR 1 23)) : ∀ (w0 : Int32) (s : zS), zV X (zq X zrI) 4 62 [] [.int w0] s (f_X0_isTriangle_62 w0 s) := by
  intro w0 s
  unfold f_X0_isTriangle_62
  exact zv_iretzB hX hT dX0_isTriangle_62
def f_X0_isTriangle_61  (s : zS) : Option (Int32 × zS) :=
  f_X0_isTriangle_62 (0 : Int32) s
set_option maxRecDepth 20000 in
theorem b_X0_isTriangle_61 {X : zX} (hX : zx_ok X cX0_isTriangle RX0 4) (hT : zx_rt X (some .boolean) (zR 1 23)) : ∀  (s : zS), zV X (zq X zrI) 4 61 [] [] s (f_X0_isTriangle_61  s) := by
  intro  s
  unfold f_X0_isTriangle_61
  refine zv_iconst (v := (0 : Int32)) hX dX0_isTriangle_61 zi_i_0 ?_
  exact b_X0_isTriangle_62 hX hT (0 : Int32) s
def f_X0_isTriangle (v1 : Int32) (v2 : Int32) (v3 : Int32) (s : zS) : Option (Int32 × zS) :=
  zbd (f_X0_areKnownToMatch v1 v2 s) fun r1 s2 =>
  if r1 = 0 then
  (f_X0_isTriangle_61 s2)
  else
  zbd (f_X0_areKnownToMatch v2 v3 s2) fun r3 s4 =>
  if r3 = 0 then
  (f_X0_isTriangle_61 s4)
  else
  zbd (f_X0_areKnownToMatch v3 v1 s4) fun r5 s6 =>
  if r5 = 0 then
  (f_X0_isTriangle_61 s6)
  else
  zbd (f_X0_leaves v1 v2 v3 s6) fun r7 s8 =>
  if r7 = 0 then
  (f_X0_isTriangle_61 s8)
  else
  zbd (f_X0_leaves v2 v3 v1 s8) fun r9 s10 =>
  if r9 = 0 then
  (f_X0_isTriangle_61 s10)
  else
  zbd (f_X0_leaves v3 v1 v2 s10) fun r11 s12 =>
  if r11 = 0 then
  (f_X0_isTriangle_61 s12)
  else
  f_X0_isTriangle_62 (1 : Int32) s12
set_option maxRecDepth 20000 in
theorem c_X0_isTriangle (Y : zG) (v1 : Int32) (v2 : Int32) (v3 : Int32) (s : zS) : zM Y yX0_isTriangle cX0_isTriangle 4 (some .boolean) (zR 1 23) [.ref (zy_a Y 60), .int v1, .int v2, .int v3] s zrI (f_X0_isTriangle v1 v2 v3 s) := by
  refine zm_start (by decide +kernel) (Nat.le_of_ble_eq_true rfl) ?_
  intro X hY hT hX
  subst hY
  have hX : zx_ok X cX0_isTriangle RX0 4 := hX
  show zV X (zq X zrI) 4 0 [(0, .ref (zx_ad X 60)), (1, .int v1), (2, .int v2), (3, .int v3)] [] s _
  unfold f_X0_isTriangle
  refine zv_aload_n hX dX0_isTriangle_0 0 rfl ?_
  refine zv_iload_n hX dX0_isTriangle_1 1 rfl ?_
  refine zv_iload_n hX dX0_isTriangle_2 2 rfl ?_
  refine zv_cVI [.int v1, .int v2] (rest := []) hX hT.2.2.2.2 (c_X0_areKnownToMatch (zx_Y X) v1 v2 s) wv_X0_areKnownToMatch c9_0 zd_60 wm_X0_82 rfl (Nat.le_of_ble_eq_true rfl) (Nat.le_of_ble_eq_true rfl) rfl (Nat.le_of_ble_eq_true rfl) dX0_isTriangle_3 (fun r1 s2 => ?_)
  refine zv_if_eq (tgt := 61) hX dX0_isTriangle_6 rfl ?_ ?_
  · exact zv_sub [] rfl (b_X0_isTriangle_61 hX hT  s2)
  · refine zv_aload_n hX dX0_isTriangle_9 0 rfl ?_
    refine zv_iload_n hX dX0_isTriangle_10 2 rfl ?_
    refine zv_iload_n hX dX0_isTriangle_11 3 rfl ?_
    refine zv_cVI [.int v2, .int v3] (rest := []) hX hT.2.2.2.2 (c_X0_areKnownToMatch (zx_Y X) v2 v3 s2) wv_X0_areKnownToMatch c9_0 zd_60 wm_X0_82 rfl (Nat.le_of_ble_eq_true rfl) (Nat.le_of_ble_eq_true rfl) rfl (Nat.le_of_ble_eq_true rfl) dX0_isTriangle_12 (fun r3 s4 => ?_)
    refine zv_if_eq (tgt := 61) hX dX0_isTriangle_15 rfl ?_ ?_
    · exact zv_sub [] rfl (b_X0_isTriangle_61 hX hT  s4)
    · refine zv_aload_n hX dX0_isTriangle_18 0 rfl ?_
      refine zv_iload_n hX dX0_isTriangle_19 3 rfl ?_
      refine zv_iload_n hX dX0_isTriangle_20 1 rfl ?_
      refine zv_cVI [.int v3, .int v1] (rest := []) hX hT.2.2.2.2 (c_X0_areKnownToMatch (zx_Y X) v3 v1 s4) wv_X0_areKnownToMatch c9_0 zd_60 wm_X0_82 rfl (Nat.le_of_ble_eq_true rfl) (Nat.le_of_ble_eq_true rfl) rfl (Nat.le_of_ble_eq_true rfl) dX0_isTriangle_21 (fun r5 s6 => ?_)
      refine zv_if_eq (tgt := 61) hX dX0_isTriangle_24 rfl ?_ ?_
      · exact zv_sub [] rfl (b_X0_isTriangle_61 hX hT  s6)
      · refine zv_aload_n hX dX0_isTriangle_27 0 rfl ?_
        refine zv_iload_n hX dX0_isTriangle_28 1 rfl ?_
        refine zv_iload_n hX dX0_isTriangle_29 2 rfl ?_
        refine zv_iload_n hX dX0_isTriangle_30 3 rfl ?_
        refine zv_cVI [.int v1, .int v2, .int v3] (rest := []) hX hT.2.2.2.2 (c_X0_leaves (zx_Y X) v1 v2 v3 s6) wv_X0_leaves c9_0 zd_60 wm_X0_85 rfl (Nat.le_of_ble_eq_true rfl) (Nat.le_of_ble_eq_true rfl) rfl (Nat.le_of_ble_eq_true rfl) dX0_isTriangle_31 (fun r7 s8 => ?_)
        refine zv_if_eq (tgt := 61) hX dX0_isTriangle_34 rfl ?_ ?_
        · exact zv_sub [] rfl (b_X0_isTriangle_61 hX hT  s8)
        · refine zv_aload_n hX dX0_isTriangle_37 0 rfl ?_
          refine zv_iload_n hX dX0_isTriangle_38 2 rfl ?_
          refine zv_iload_n hX dX0_isTriangle_39 3 rfl ?_
          refine zv_iload_n hX dX0_isTriangle_40 1 rfl ?_
          refine zv_cVI [.int v2, .int v3, .int v1] (rest := []) hX hT.2.2.2.2 (c_X0_leaves (zx_Y X) v2 v3 v1 s8) wv_X0_leaves c9_0 zd_60 wm_X0_85 rfl (Nat.le_of_ble_eq_true rfl) (Nat.le_of_ble_eq_true rfl) rfl (Nat.le_of_ble_eq_true rfl) dX0_isTriangle_41 (fun r9 s10 => ?_)
          refine zv_if_eq (tgt := 61) hX dX0_isTriangle_44 rfl ?_ ?_
          · exact zv_sub [] rfl (b_X0_isTriangle_61 hX hT  s10)
          · refine zv_aload_n hX dX0_isTriangle_47 0 rfl ?_
            refine zv_iload_n hX dX0_isTriangle_48 3 rfl ?_
            refine zv_iload_n hX dX0_isTriangle_49 1 rfl ?_
            refine zv_iload_n hX dX0_isTriangle_50 2 rfl ?_
            refine zv_cVI [.int v3, .int v1, .int v2] (rest := []) hX hT.2.2.2.2 (c_X0_leaves (zx_Y X) v3 v1 v2 s10) wv_X0_leaves c9_0 zd_60 wm_X0_85 rfl (Nat.le_of_ble_eq_true rfl) (Nat.le_of_ble_eq_true rfl) rfl (Nat.le_of_ble_eq_true rfl) dX0_isTriangle_51 (fun r11 s12 => ?_)
            refine zv_if_eq (tgt := 61) hX dX0_isTriangle_54 rfl ?_ ?_
            · exact zv_sub [] rfl (b_X0_isTriangle_61 hX hT  s12)
            · refine zv_iconst (v := (1 : Int32)) hX dX0_isTriangle_57 zi_i_1 ?_
              refine zv_goto (tgt := 62) hX dX0_isTriangle_58 rfl ?_
              exact zv_sub [] rfl (b_X0_isTriangle_62 hX hT (1 : Int32) s12)
theorem dX0_likesMore_0 : decode cX0_likesMore 0 = .ok (.iload_n 3, 1) := by decide +kernel
theorem dX0_likesMore_1 : decode cX0_likesMore 1 = .ok (.ifCond .ge 5, 3) := by decide +kernel
theorem dX0_likesMore_4 : decode cX0_likesMore 4 = .ok (.iconst 1, 1) := by decide +kernel
theorem dX0_likesMore_5 : decode cX0_likesMore 5 = .ok (.ireturn, 1) := by decide +kernel
theorem dX0_likesMore_6 : decode cX0_likesMore 6 = .ok (.aload_n 0, 1) := by decide +kernel
theorem dX0_likesMore_7 : decode cX0_likesMore 7 = .ok (.getfield 37, 3) := by decide +kernel
theorem dX0_likesMore_10 : decode cX0_likesMore 10 = .ok (.iload_n 1, 1) := by decide +kernel
theorem dX0_likesMore_11 : decode cX0_likesMore 11 = .ok (.iload_n 2, 1) := by decide +kernel
theorem dX0_likesMore_12 : decode cX0_likesMore 12 = .ok (.invokevirtual 47, 3) := by decide +kernel
theorem dX0_likesMore_15 : decode cX0_likesMore 15 = .ok (.istore 4, 2) := by decide +kernel
theorem dX0_likesMore_17 : decode cX0_likesMore 17 = .ok (.aload_n 0, 1) := by decide +kernel
theorem dX0_likesMore_18 : decode cX0_likesMore 18 = .ok (.getfield 37, 3) := by decide +kernel
theorem dX0_likesMore_21 : decode cX0_likesMore 21 = .ok (.iload_n 1, 1) := by decide +kernel
theorem dX0_likesMore_22 : decode cX0_likesMore 22 = .ok (.iload_n 3, 1) := by decide +kernel
theorem dX0_likesMore_23 : decode cX0_likesMore 23 = .ok (.invokevirtual 47, 3) := by decide +kernel
theorem dX0_likesMore_26 : decode cX0_likesMore 26 = .ok (.istore 5, 2) := by decide +kernel
theorem dX0_likesMore_28 : decode cX0_likesMore 28 = .ok (.iload 4, 2) := by decide +kernel
theorem dX0_likesMore_30 : decode cX0_likesMore 30 = .ok (.iload 5, 2) := by decide +kernel
theorem dX0_likesMore_32 : decode cX0_likesMore 32 = .ok (.if_icmp .gt 15, 3) := by decide +kernel
theorem dX0_likesMore_35 : decode cX0_likesMore 35 = .ok (.iload 4, 2) := by decide +kernel
theorem dX0_likesMore_37 : decode cX0_likesMore 37 = .ok (.iload 5, 2) := by decide +kernel
theorem dX0_likesMore_39 : decode cX0_likesMore 39 = .ok (.if_icmp .ne 12, 3) := by decide +kernel
theorem dX0_likesMore_42 : decode cX0_likesMore 42 = .ok (.iload_n 2, 1) := by decide +kernel
theorem dX0_likesMore_43 : decode cX0_likesMore 43 = .ok (.iload_n 3, 1) := by decide +kernel
theorem dX0_likesMore_44 : decode cX0_likesMore 44 = .ok (.if_icmp .ge 7, 3) := by decide +kernel
theorem dX0_likesMore_47 : decode cX0_likesMore 47 = .ok (.iconst 1, 1) := by decide +kernel
theorem dX0_likesMore_48 : decode cX0_likesMore 48 = .ok (.goto 4, 3) := by decide +kernel
theorem dX0_likesMore_51 : decode cX0_likesMore 51 = .ok (.iconst 0, 1) := by decide +kernel
theorem dX0_likesMore_52 : decode cX0_likesMore 52 = .ok (.ireturn, 1) := by decide +kernel
def f_X0_likesMore_52 (w0 : Int32) (s : zS) : Option (Int32 × zS) :=
  if w0 = 0 ∨ w0 = 1 then some (w0, s) else none
set_option maxRecDepth 20000 in
theorem b_X0_likesMore_52 {X : zX} (hX : zx_ok X cX0_likesMore RX0 6) (hT : zx_rt X (some .boolean) (zR 3 75)) : ∀ (w0 : Int32) (s : zS), zV X (zq X zrI) 6 52 [] [.int w0] s (f_X0_likesMore_52 w0 s) := by
  intro w0 s
  unfold f_X0_likesMore_52
  exact zv_iretzB hX hT dX0_likesMore_52
def f_X0_likesMore_47  (s : zS) : Option (Int32 × zS) :=
  f_X0_likesMore_52 (1 : Int32) s
set_option maxRecDepth 20000 in
theorem b_X0_likesMore_47 {X : zX} (hX : zx_ok X cX0_likesMore RX0 6) (hT : zx_rt X (some .boolean) (zR 3 75)) : ∀  (s : zS), zV X (zq X zrI) 6 47 [] [] s (f_X0_likesMore_47  s) := by
  intro  s
  unfold f_X0_likesMore_47
  refine zv_iconst (v := (1 : Int32)) hX dX0_likesMore_47 zi_i_1 ?_
  refine zv_goto (tgt := 52) hX dX0_likesMore_48 rfl ?_
  exact b_X0_likesMore_52 hX hT (1 : Int32) s
def f_X0_likesMore_51  (s : zS) : Option (Int32 × zS) :=
  f_X0_likesMore_52 (0 : Int32) s
set_option maxRecDepth 20000 in
theorem b_X0_likesMore_51 {X : zX} (hX : zx_ok X cX0_likesMore RX0 6) (hT : zx_rt X (some .boolean) (zR 3 75)) : ∀  (s : zS), zV X (zq X zrI) 6 51 [] [] s (f_X0_likesMore_51  s) := by
  intro  s
  unfold f_X0_likesMore_51
  refine zv_iconst (v := (0 : Int32)) hX dX0_likesMore_51 zi_i_0 ?_
  exact b_X0_likesMore_52 hX hT (0 : Int32) s
def f_X0_likesMore (v1 : Int32) (v2 : Int32) (v3 : Int32) (s : zS) : Option (Int32 × zS) :=
  if 0 ≤ v3 then
  (zbd (f_X4_liking v1 v2 s) fun r1 s2 =>
  zbd (f_X4_liking v1 v3 s2) fun r3 s4 =>
  if r3 < r1 then
  (f_X0_likesMore_47 s4)
  else
  if ¬ r1 = r3 then
  (f_X0_likesMore_51 s4)
  else
  if v3 ≤ v2 then
  (f_X0_likesMore_51 s4)
  else
  f_X0_likesMore_47 s4)
  else
  some ((1 : Int32), s)
set_option maxRecDepth 20000 in
theorem c_X0_likesMore (Y : zG) (v1 : Int32) (v2 : Int32) (v3 : Int32) (s : zS) : zM Y yX0_likesMore cX0_likesMore 6 (some .boolean) (zR 3 75) [.ref (zy_a Y 60), .int v1, .int v2, .int v3] s zrI (f_X0_likesMore v1 v2 v3 s) := by
  refine zm_start (by decide +kernel) (Nat.le_of_ble_eq_true rfl) ?_
  intro X hY hT hX
  subst hY
  have hX : zx_ok X cX0_likesMore RX0 6 := hX
  show zV X (zq X zrI) 6 0 [(0, .ref (zx_ad X 60)), (1, .int v1), (2, .int v2), (3, .int v3)] [] s _
  unfold f_X0_likesMore
  refine zv_iload_n hX dX0_likesMore_0 3 rfl ?_
  refine zv_if_ge (tgt := 6) hX dX0_likesMore_1 rfl ?_ ?_
  · refine zv_aload_n hX dX0_likesMore_6 0 rfl ?_
    refine zv_geta hX wf_X0_37 wc_0 zd_60 zj_60_1 c9_0 zr_60_1 (by decide) dX0_likesMore_7 ?_
    refine zv_iload_n hX dX0_likesMore_10 1 rfl ?_
    refine zv_iload_n hX dX0_likesMore_11 2 rfl ?_
    refine zv_cVI [.int v1, .int v2] (rest := []) hX hT.2.2.2.2 (c_X4_liking (zx_Y X) v1 v2 s) wv_X4_liking c9_4 zd_42 wm_X0_47 rfl (Nat.le_of_ble_eq_true rfl) (Nat.le_of_ble_eq_true rfl) rfl (Nat.le_of_ble_eq_true rfl) dX0_likesMore_12 (fun r1 s2 => ?_)
    refine zv_istore (lv' := [(4, .int r1), (0, .ref (zx_ad X 60)), (1, .int v1), (2, .int v2), (3, .int v3)]) hX dX0_likesMore_15 (by decide) rfl ?_
    refine zv_aload_n hX dX0_likesMore_17 1 rfl ?_
    refine zv_geta hX wf_X0_37 wc_0 zd_60 zj_60_1 c9_0 zr_60_1 (by decide) dX0_likesMore_18 ?_
    refine zv_iload_n hX dX0_likesMore_21 2 rfl ?_
    refine zv_iload_n hX dX0_likesMore_22 4 rfl ?_
    refine zv_cVI [.int v1, .int v3] (rest := []) hX hT.2.2.2.2 (c_X4_liking (zx_Y X) v1 v3 s2) wv_X4_liking c9_4 zd_42 wm_X0_47 rfl (Nat.le_of_ble_eq_true rfl) (Nat.le_of_ble_eq_true rfl) rfl (Nat.le_of_ble_eq_true rfl) dX0_likesMore_23 (fun r3 s4 => ?_)
    refine zv_istore (lv' := [(5, .int r3), (4, .int r1), (0, .ref (zx_ad X 60)), (1, .int v1), (2, .int v2), (3, .int v3)]) hX dX0_likesMore_26 (by decide) rfl ?_
    refine zv_iload hX dX0_likesMore_28 1 rfl ?_
    refine zv_iload hX dX0_likesMore_30 0 rfl ?_
    refine zv_icmp_gt (tgt := 47) hX dX0_likesMore_32 rfl ?_ ?_
    · exact zv_sub [] rfl (b_X0_likesMore_47 hX hT  s4)
    · refine zv_iload hX dX0_likesMore_35 1 rfl ?_
      refine zv_iload hX dX0_likesMore_37 0 rfl ?_
      refine zv_icmp_ne (tgt := 51) hX dX0_likesMore_39 rfl ?_ ?_
      · exact zv_sub [] rfl (b_X0_likesMore_51 hX hT  s4)
      · refine zv_iload_n hX dX0_likesMore_42 4 rfl ?_
        refine zv_iload_n hX dX0_likesMore_43 5 rfl ?_
        refine zv_icmp_ge (tgt := 51) hX dX0_likesMore_44 rfl ?_ ?_
        · exact zv_sub [] rfl (b_X0_likesMore_51 hX hT  s4)
        · exact zv_sub [] rfl (b_X0_likesMore_47 hX hT  s4)
  · refine zv_iconst (v := (1 : Int32)) hX dX0_likesMore_4 zi_i_1 ?_
    exact zv_iretz hX hT (by decide) dX0_likesMore_5
theorem dX0_learnLess_0 : decode cX0_learnLess 0 = .ok (.iconst 0, 1) := by decide +kernel
theorem dX0_learnLess_1 : decode cX0_learnLess 1 = .ok (.istore_n 3, 1) := by decide +kernel
theorem dX0_learnLess_2 : decode cX0_learnLess 2 = .ok (.iconst 0, 1) := by decide +kernel
theorem dX0_learnLess_3 : decode cX0_learnLess 3 = .ok (.istore 4, 2) := by decide +kernel
theorem dX0_learnLess_5 : decode cX0_learnLess 5 = .ok (.iload 4, 2) := by decide +kernel
theorem dX0_learnLess_7 : decode cX0_learnLess 7 = .ok (.aload_n 0, 1) := by decide +kernel
theorem dX0_learnLess_8 : decode cX0_learnLess 8 = .ok (.getfield 33, 3) := by decide +kernel
theorem dX0_learnLess_11 : decode cX0_learnLess 11 = .ok (.getfield 65, 3) := by decide +kernel
theorem dX0_learnLess_14 : decode cX0_learnLess 14 = .ok (.if_icmp .ge 39, 3) := by decide +kernel
theorem dX0_learnLess_17 : decode cX0_learnLess 17 = .ok (.iload 4, 2) := by decide +kernel
theorem dX0_learnLess_19 : decode cX0_learnLess 19 = .ok (.iload_n 1, 1) := by decide +kernel
theorem dX0_learnLess_20 : decode cX0_learnLess 20 = .ok (.if_icmp .eq 27, 3) := by decide +kernel
theorem dX0_learnLess_23 : decode cX0_learnLess 23 = .ok (.iload 4, 2) := by decide +kernel
theorem dX0_learnLess_25 : decode cX0_learnLess 25 = .ok (.iload_n 2, 1) := by decide +kernel
theorem dX0_learnLess_26 : decode cX0_learnLess 26 = .ok (.if_icmp .eq 21, 3) := by decide +kernel
theorem dX0_learnLess_29 : decode cX0_learnLess 29 = .ok (.aload_n 0, 1) := by decide +kernel
theorem dX0_learnLess_30 : decode cX0_learnLess 30 = .ok (.iload_n 1, 1) := by decide +kernel
theorem dX0_learnLess_31 : decode cX0_learnLess 31 = .ok (.iload_n 2, 1) := by decide +kernel
theorem dX0_learnLess_32 : decode cX0_learnLess 32 = .ok (.iload 4, 2) := by decide +kernel
theorem dX0_learnLess_34 : decode cX0_learnLess 34 = .ok (.invokevirtual 75, 3) := by decide +kernel
theorem dX0_learnLess_37 : decode cX0_learnLess 37 = .ok (.ifCond .eq 10, 3) := by decide +kernel
theorem dX0_learnLess_40 : decode cX0_learnLess 40 = .ok (.iload_n 3, 1) := by decide +kernel
theorem dX0_learnLess_41 : decode cX0_learnLess 41 = .ok (.iconst 1, 1) := by decide +kernel
theorem dX0_learnLess_42 : decode cX0_learnLess 42 = .ok (.iload 4, 2) := by decide +kernel
theorem dX0_learnLess_44 : decode cX0_learnLess 44 = .ok (.ishl, 1) := by decide +kernel
theorem dX0_learnLess_45 : decode cX0_learnLess 45 = .ok (.ior, 1) := by decide +kernel
theorem dX0_learnLess_46 : decode cX0_learnLess 46 = .ok (.istore_n 3, 1) := by decide +kernel
theorem dX0_learnLess_47 : decode cX0_learnLess 47 = .ok (.iinc 4 1, 3) := by decide +kernel
theorem dX0_learnLess_50 : decode cX0_learnLess 50 = .ok (.goto (-45), 3) := by decide +kernel
theorem dX0_learnLess_53 : decode cX0_learnLess 53 = .ok (.aload_n 0, 1) := by decide +kernel
theorem dX0_learnLess_54 : decode cX0_learnLess 54 = .ok (.getfield 15, 3) := by decide +kernel
theorem dX0_learnLess_57 : decode cX0_learnLess 57 = .ok (.iload_n 1, 1) := by decide +kernel
theorem dX0_learnLess_58 : decode cX0_learnLess 58 = .ok (.bipush 7, 2) := by decide +kernel
theorem dX0_learnLess_60 : decode cX0_learnLess 60 = .ok (.imul, 1) := by decide +kernel
theorem dX0_learnLess_61 : decode cX0_learnLess 61 = .ok (.iload_n 2, 1) := by decide +kernel
theorem dX0_learnLess_62 : decode cX0_learnLess 62 = .ok (.iadd, 1) := by decide +kernel
theorem dX0_learnLess_63 : decode cX0_learnLess 63 = .ok (.iload_n 3, 1) := by decide +kernel
theorem dX0_learnLess_64 : decode cX0_learnLess 64 = .ok (.iastore, 1) := by decide +kernel
theorem dX0_learnLess_65 : decode cX0_learnLess 65 = .ok (.return_, 1) := by decide +kernel
def f_X0_learnLess_47 (kb_5 : Int32 → Int32 → Int32 → Int32 → zS → Option (Unit × zS)) (v1 : Int32) (v2 : Int32) (v3 : Int32) (v4 : Int32) (s : zS) : Option (Unit × zS) :=
  zb (v4 + (1 : Int32)) fun x1 =>
  kb_5 v1 v2 v3 x1 s
set_option maxRecDepth 20000 in
theorem b_X0_learnLess_47 {X : zX} {kb_5 : Int32 → Int32 → Int32 → Int32 → zS → Option (Unit × zS)} (hX : zx_ok X cX0_learnLess RX0 5) (hT : zx_rt X none (zR 4 100)) (hk_5 : ∀ (v1 : Int32) (v2 : Int32) (v3 : Int32) (v4 : Int32) (s : zS), zV X (zq X zrV) 5 5 [(0, .ref (zx_ad X 60)), (1, .int v1), (2, .int v2), (3, .int v3), (4, .int v4)] [] s (kb_5 v1 v2 v3 v4 s)) : ∀ (v1 : Int32) (v2 : Int32) (v3 : Int32) (v4 : Int32) (s : zS), zV X (zq X zrV) 5 47 [(0, .ref (zx_ad X 60)), (1, .int v1), (2, .int v2), (3, .int v3), (4, .int v4)] [] s (f_X0_learnLess_47 kb_5 v1 v2 v3 v4 s) := by
  intro v1 v2 v3 v4 s
  unfold f_X0_learnLess_47
  refine zv_iincB (lw := fun x1 => [(4, .int x1), (0, .ref (zx_ad X 60)), (1, .int v1), (2, .int v2), (3, .int v3)]) hX dX0_learnLess_47 4 rfl zi_i_1 (by decide) (fun _ => rfl) (fun x1 => ?_)
  refine zv_goto (tgt := 5) hX dX0_learnLess_50 rfl ?_
  exact zv_sub [1, 2, 3, 4, 0] rfl (hk_5 v1 v2 v3 x1 s)
def f_X0_learnLess_5 : Nat → Int32 → Int32 → Int32 → Int32 → zS → Option (Unit × zS)
  | 0, _, _, _, _, _ => none
  | n + 1, v1, v2, v3, v4, s =>
    if (s.1 3 0) ≤ v4 then
    ((zw_i s 62 ((v1 * (nI 7)) + v2) v3).bind fun s2 =>
    some ((), s2))
    else
    if v4 = v1 then
    (f_X0_learnLess_47 (f_X0_learnLess_5 n) v1 v2 v3 v4 s)
    else
    if v4 = v2 then
    (f_X0_learnLess_47 (f_X0_learnLess_5 n) v1 v2 v3 v4 s)
    else
    zbd (f_X0_likesMore v1 v2 v4 s) fun r3 s4 =>
    if r3 = 0 then
    (f_X0_learnLess_47 (f_X0_learnLess_5 n) v1 v2 v3 v4 s4)
    else
    zb (v3 ||| (zo_shl (1 : Int32) v4)) fun x5 =>
    f_X0_learnLess_47 (f_X0_learnLess_5 n) v1 v2 x5 v4 s4
set_option maxRecDepth 20000 in
theorem b_X0_learnLess_5 {X : zX} (hX : zx_ok X cX0_learnLess RX0 5) (hT : zx_rt X none (zR 4 100)) : ∀ (n : Nat) (v1 : Int32) (v2 : Int32) (v3 : Int32) (v4 : Int32) (s : zS), zV X (zq X zrV) 5 5 [(0, .ref (zx_ad X 60)), (1, .int v1), (2, .int v2), (3, .int v3), (4, .int v4)] [] s (f_X0_learnLess_5 n v1 v2 v3 v4 s) := by
  intro n
  induction n with
  | zero => intro v1 v2 v3 v4 s; exact zv_none
  | succ n ih =>
    intro v1 v2 v3 v4 s
    rw [f_X0_learnLess_5]
    refine zv_iload hX dX0_learnLess_5 4 rfl ?_
    refine zv_aload_n hX dX0_learnLess_7 0 rfl ?_
    refine zv_geta hX wf_X0_33 wc_0 zd_60 zj_60_0 c9_0 zr_60_0 (by decide) dX0_learnLess_8 ?_
    refine zv_geti hX wf_X0_65 wc_5 zd_3 zj_3_0 c9_5 zr_3_0 dX0_learnLess_11 ?_
    refine zv_icmp_ge (tgt := 53) hX dX0_learnLess_14 rfl ?_ ?_
    · refine zv_aload_n hX dX0_learnLess_53 0 rfl ?_
      refine zv_geta hX wf_X0_15 wc_0 zd_60 zj_60_3 c9_0 zr_60_3 (by decide) dX0_learnLess_54 ?_
      refine zv_iload_n hX dX0_learnLess_57 1 rfl ?_
      refine zv_bipush (v := (nI 7)) hX dX0_learnLess_58 zi_b_7 ?_
      refine zv_imul hX dX0_learnLess_60 ?_
      refine zv_iload_n hX dX0_learnLess_61 2 rfl ?_
      refine zv_iadd hX dX0_learnLess_62 ?_
      refine zv_iload_n hX dX0_learnLess_63 3 rfl ?_
      refine zv_iast hX dX0_learnLess_64 (fun s2 => ?_)
      exact zv_vret hX hT dX0_learnLess_65
    · refine zv_iload hX dX0_learnLess_17 4 rfl ?_
      refine zv_iload_n hX dX0_learnLess_19 1 rfl ?_
      refine zv_icmp_eq (tgt := 47) hX dX0_learnLess_20 rfl ?_ ?_
      · exact b_X0_learnLess_47 hX hT ih v1 v2 v3 v4 s
      · refine zv_iload hX dX0_learnLess_23 4 rfl ?_
        refine zv_iload_n hX dX0_learnLess_25 2 rfl ?_
        refine zv_icmp_eq (tgt := 47) hX dX0_learnLess_26 rfl ?_ ?_
        · exact b_X0_learnLess_47 hX hT ih v1 v2 v3 v4 s
        · refine zv_aload_n hX dX0_learnLess_29 0 rfl ?_
          refine zv_iload_n hX dX0_learnLess_30 1 rfl ?_
          refine zv_iload_n hX dX0_learnLess_31 2 rfl ?_
          refine zv_iload hX dX0_learnLess_32 4 rfl ?_
          refine zv_cVI [.int v1, .int v2, .int v4] (rest := []) hX hT.2.2.2.2 (c_X0_likesMore (zx_Y X) v1 v2 v4 s) wv_X0_likesMore c9_0 zd_60 wm_X0_75 rfl (Nat.le_of_ble_eq_true rfl) (Nat.le_of_ble_eq_true rfl) rfl (Nat.le_of_ble_eq_true rfl) dX0_learnLess_34 (fun r3 s4 => ?_)
          refine zv_if_eq (tgt := 47) hX dX0_learnLess_37 rfl ?_ ?_
          · exact b_X0_learnLess_47 hX hT ih v1 v2 v3 v4 s4
          · refine zv_iload_n hX dX0_learnLess_40 3 rfl ?_
            refine zv_iconst (v := (1 : Int32)) hX dX0_learnLess_41 zi_i_1 ?_
            refine zv_iload hX dX0_learnLess_42 4 rfl ?_
            refine zv_ishl hX dX0_learnLess_44 ?_
            refine zv_ior hX dX0_learnLess_45 ?_
            refine zv_istB_n (lw := fun x5 => [(3, .int x5), (0, .ref (zx_ad X 60)), (1, .int v1), (2, .int v2), (4, .int v4)]) hX dX0_learnLess_46 (by decide) (fun _ => rfl) (fun x5 => ?_)
            exact zv_sub [1, 2, 3, 0, 4] rfl (b_X0_learnLess_47 hX hT ih v1 v2 x5 v4 s4)
def f_X0_learnLess (v1 : Int32) (v2 : Int32) (s : zS) : Option (Unit × zS) :=
  f_X0_learnLess_5 zFU v1 v2 (0 : Int32) (0 : Int32) s
set_option maxRecDepth 20000 in
theorem c_X0_learnLess (Y : zG) (v1 : Int32) (v2 : Int32) (s : zS) : zM Y yX0_learnLess cX0_learnLess 5 none (zR 4 100) [.ref (zy_a Y 60), .int v1, .int v2] s zrV (f_X0_learnLess v1 v2 s) := by
  refine zm_start (by decide +kernel) (Nat.le_of_ble_eq_true rfl) ?_
  intro X hY hT hX
  subst hY
  have hX : zx_ok X cX0_learnLess RX0 5 := hX
  show zV X (zq X zrV) 5 0 [(0, .ref (zx_ad X 60)), (1, .int v1), (2, .int v2)] [] s _
  unfold f_X0_learnLess
  refine zv_iconst (v := (0 : Int32)) hX dX0_learnLess_0 zi_i_0 ?_
  refine zv_istore_n (lv' := [(3, .int (0 : Int32)), (0, .ref (zx_ad X 60)), (1, .int v1), (2, .int v2)]) hX dX0_learnLess_1 (by decide) rfl ?_
  refine zv_iconst (v := (0 : Int32)) hX dX0_learnLess_2 zi_i_0 ?_
  refine zv_istore (lv' := [(4, .int (0 : Int32)), (3, .int (0 : Int32)), (0, .ref (zx_ad X 60)), (1, .int v1), (2, .int v2)]) hX dX0_learnLess_3 (by decide) rfl ?_
  exact zv_sub [2, 3, 4, 1, 0] rfl (b_X0_learnLess_5 hX hT zFU v1 v2 (0 : Int32) (0 : Int32) s)
