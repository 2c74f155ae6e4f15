theorem dX8_goesPair_0 : decode cX8_goesPair 0 = .ok (.aload_n 0, 1) := by decide +kernel
theorem dX8_goesPair_1 : decode cX8_goesPair 1 = .ok (.getfield 391, 3) := by decide +kernel
theorem dX8_goesPair_4 : decode cX8_goesPair 4 = .ok (.aload_n 0, 1) := by decide +kernel
theorem dX8_goesPair_5 : decode cX8_goesPair 5 = .ok (.getfield 394, 3) := by decide +kernel
theorem dX8_goesPair_8 : decode cX8_goesPair 8 = .ok (.if_icmp .ne 4, 3) := by decide +kernel
theorem dX8_goesPair_11 : decode cX8_goesPair 11 = .ok (.return_, 1) := by decide +kernel
theorem dX8_goesPair_12 : decode cX8_goesPair 12 = .ok (.iload_n 1, 1) := by decide +kernel
theorem dX8_goesPair_13 : decode cX8_goesPair 13 = .ok (.aload_n 0, 1) := by decide +kernel
theorem dX8_goesPair_14 : decode cX8_goesPair 14 = .ok (.getfield 13, 3) := by decide +kernel
theorem dX8_goesPair_17 : decode cX8_goesPair 17 = .ok (.iconst 1, 1) := by decide +kernel
theorem dX8_goesPair_18 : decode cX8_goesPair 18 = .ok (.iaload, 1) := by decide +kernel
theorem dX8_goesPair_19 : decode cX8_goesPair 19 = .ok (.if_icmp .ne 57, 3) := by decide +kernel
theorem dX8_goesPair_22 : decode cX8_goesPair 22 = .ok (.aload_n 0, 1) := by decide +kernel
theorem dX8_goesPair_23 : decode cX8_goesPair 23 = .ok (.iload_n 2, 1) := by decide +kernel
theorem dX8_goesPair_24 : decode cX8_goesPair 24 = .ok (.invokevirtual 385, 3) := by decide +kernel
theorem dX8_goesPair_27 : decode cX8_goesPair 27 = .ok (.ifCond .ne 4, 3) := by decide +kernel
theorem dX8_goesPair_30 : decode cX8_goesPair 30 = .ok (.return_, 1) := by decide +kernel
theorem dX8_goesPair_31 : decode cX8_goesPair 31 = .ok (.iconst 0, 1) := by decide +kernel
theorem dX8_goesPair_32 : decode cX8_goesPair 32 = .ok (.istore_n 3, 1) := by decide +kernel
theorem dX8_goesPair_33 : decode cX8_goesPair 33 = .ok (.iload_n 3, 1) := by decide +kernel
theorem dX8_goesPair_34 : decode cX8_goesPair 34 = .ok (.bipush 7, 2) := by decide +kernel
theorem dX8_goesPair_36 : decode cX8_goesPair 36 = .ok (.if_icmp .ge 29, 3) := by decide +kernel
theorem dX8_goesPair_39 : decode cX8_goesPair 39 = .ok (.aload_n 0, 1) := by decide +kernel
theorem dX8_goesPair_40 : decode cX8_goesPair 40 = .ok (.getfield 63, 3) := by decide +kernel
theorem dX8_goesPair_43 : decode cX8_goesPair 43 = .ok (.bipush 7, 2) := by decide +kernel
theorem dX8_goesPair_45 : decode cX8_goesPair 45 = .ok (.aload_n 0, 1) := by decide +kernel
theorem dX8_goesPair_46 : decode cX8_goesPair 46 = .ok (.getfield 391, 3) := by decide +kernel
theorem dX8_goesPair_49 : decode cX8_goesPair 49 = .ok (.imul, 1) := by decide +kernel
theorem dX8_goesPair_50 : decode cX8_goesPair 50 = .ok (.iload_n 3, 1) := by decide +kernel
theorem dX8_goesPair_51 : decode cX8_goesPair 51 = .ok (.iadd, 1) := by decide +kernel
theorem dX8_goesPair_52 : decode cX8_goesPair 52 = .ok (.aload_n 0, 1) := by decide +kernel
theorem dX8_goesPair_53 : decode cX8_goesPair 53 = .ok (.getfield 60, 3) := by decide +kernel
theorem dX8_goesPair_56 : decode cX8_goesPair 56 = .ok (.iload_n 3, 1) := by decide +kernel
theorem dX8_goesPair_57 : decode cX8_goesPair 57 = .ok (.iaload, 1) := by decide +kernel
theorem dX8_goesPair_58 : decode cX8_goesPair 58 = .ok (.iastore, 1) := by decide +kernel
theorem dX8_goesPair_59 : decode cX8_goesPair 59 = .ok (.iinc 3 1, 3) := by decide +kernel
theorem dX8_goesPair_62 : decode cX8_goesPair 62 = .ok (.goto (-29), 3) := by decide +kernel
theorem dX8_goesPair_65 : decode cX8_goesPair 65 = .ok (.aload_n 0, 1) := by decide +kernel
theorem dX8_goesPair_66 : decode cX8_goesPair 66 = .ok (.dup, 1) := by decide +kernel
theorem dX8_goesPair_67 : decode cX8_goesPair 67 = .ok (.getfield 391, 3) := by decide +kernel
theorem dX8_goesPair_70 : decode cX8_goesPair 70 = .ok (.iconst 1, 1) := by decide +kernel
theorem dX8_goesPair_71 : decode cX8_goesPair 71 = .ok (.iadd, 1) := by decide +kernel
theorem dX8_goesPair_72 : decode cX8_goesPair 72 = .ok (.putfield 391, 3) := by decide +kernel
theorem dX8_goesPair_75 : decode cX8_goesPair 75 = .ok (.return_, 1) := by decide +kernel
theorem dX8_goesPair_76 : decode cX8_goesPair 76 = .ok (.iload_n 2, 1) := by decide +kernel
theorem dX8_goesPair_77 : decode cX8_goesPair 77 = .ok (.i2l, 1) := by decide +kernel
theorem dX8_goesPair_78 : decode cX8_goesPair 78 = .ok (.iload_n 1, 1) := by decide +kernel
theorem dX8_goesPair_79 : decode cX8_goesPair 79 = .ok (.invokestatic 223, 3) := by decide +kernel
theorem dX8_goesPair_82 : decode cX8_goesPair 82 = .ok (.ifCond .eq 13, 3) := by decide +kernel
theorem dX8_goesPair_85 : decode cX8_goesPair 85 = .ok (.aload_n 0, 1) := by decide +kernel
theorem dX8_goesPair_86 : decode cX8_goesPair 86 = .ok (.getfield 60, 3) := by decide +kernel
theorem dX8_goesPair_89 : decode cX8_goesPair 89 = .ok (.iload_n 1, 1) := by decide +kernel
theorem dX8_goesPair_90 : decode cX8_goesPair 90 = .ok (.iaload, 1) := by decide +kernel
theorem dX8_goesPair_91 : decode cX8_goesPair 91 = .ok (.iconst (-1), 1) := by decide +kernel
theorem dX8_goesPair_92 : decode cX8_goesPair 92 = .ok (.if_icmp .eq 12, 3) := by decide +kernel
theorem dX8_goesPair_95 : decode cX8_goesPair 95 = .ok (.aload_n 0, 1) := by decide +kernel
theorem dX8_goesPair_96 : decode cX8_goesPair 96 = .ok (.iload_n 1, 1) := by decide +kernel
theorem dX8_goesPair_97 : decode cX8_goesPair 97 = .ok (.iconst 1, 1) := by decide +kernel
theorem dX8_goesPair_98 : decode cX8_goesPair 98 = .ok (.iadd, 1) := by decide +kernel
theorem dX8_goesPair_99 : decode cX8_goesPair 99 = .ok (.iload_n 2, 1) := by decide +kernel
theorem dX8_goesPair_100 : decode cX8_goesPair 100 = .ok (.invokevirtual 397, 3) := by decide +kernel
theorem dX8_goesPair_103 : decode cX8_goesPair 103 = .ok (.return_, 1) := by decide +kernel
theorem dX8_goesPair_104 : decode cX8_goesPair 104 = .ok (.aload_n 0, 1) := by decide +kernel
theorem dX8_goesPair_105 : decode cX8_goesPair 105 = .ok (.iload_n 1, 1) := by decide +kernel
theorem dX8_goesPair_106 : decode cX8_goesPair 106 = .ok (.iconst 1, 1) := by decide +kernel
theorem dX8_goesPair_107 : decode cX8_goesPair 107 = .ok (.iadd, 1) := by decide +kernel
theorem dX8_goesPair_108 : decode cX8_goesPair 108 = .ok (.iload_n 2, 1) := by decide +kernel
theorem dX8_goesPair_109 : decode cX8_goesPair 109 = .ok (.invokevirtual 397, 3) := by decide +kernel
theorem dX8_goesPair_112 : decode cX8_goesPair 112 = .ok (.iload_n 1, 1) := by decide +kernel
theorem dX8_goesPair_113 : decode cX8_goesPair 113 = .ok (.iconst 1, 1) := by decide +kernel
theorem dX8_goesPair_114 : decode cX8_goesPair 114 = .ok (.iadd, 1) := by decide +kernel
theorem dX8_goesPair_115 : decode cX8_goesPair 115 = .ok (.istore_n 3, 1) := by decide +kernel
theorem dX8_goesPair_116 : decode cX8_goesPair 116 = .ok (.iload_n 3, 1) := by decide +kernel
theorem dX8_goesPair_117 : decode cX8_goesPair 117 = .ok (.aload_n 0, 1) := by decide +kernel
theorem dX8_goesPair_118 : decode cX8_goesPair 118 = .ok (.getfield 13, 3) := by decide +kernel
theorem dX8_goesPair_121 : decode cX8_goesPair 121 = .ok (.iconst 1, 1) := by decide +kernel
theorem dX8_goesPair_122 : decode cX8_goesPair 122 = .ok (.iaload, 1) := by decide +kernel
theorem dX8_goesPair_123 : decode cX8_goesPair 123 = .ok (.if_icmp .ge 76, 3) := by decide +kernel
theorem dX8_goesPair_126 : decode cX8_goesPair 126 = .ok (.iload_n 2, 1) := by decide +kernel
theorem dX8_goesPair_127 : decode cX8_goesPair 127 = .ok (.i2l, 1) := by decide +kernel
theorem dX8_goesPair_128 : decode cX8_goesPair 128 = .ok (.iload_n 3, 1) := by decide +kernel
theorem dX8_goesPair_129 : decode cX8_goesPair 129 = .ok (.invokestatic 223, 3) := by decide +kernel
theorem dX8_goesPair_132 : decode cX8_goesPair 132 = .ok (.ifCond .eq 61, 3) := by decide +kernel
theorem dX8_goesPair_135 : decode cX8_goesPair 135 = .ok (.aload_n 0, 1) := by decide +kernel
theorem dX8_goesPair_136 : decode cX8_goesPair 136 = .ok (.getfield 60, 3) := by decide +kernel
theorem dX8_goesPair_139 : decode cX8_goesPair 139 = .ok (.iload_n 3, 1) := by decide +kernel
theorem dX8_goesPair_140 : decode cX8_goesPair 140 = .ok (.iaload, 1) := by decide +kernel
theorem dX8_goesPair_141 : decode cX8_goesPair 141 = .ok (.iconst (-1), 1) := by decide +kernel
theorem dX8_goesPair_142 : decode cX8_goesPair 142 = .ok (.if_icmp .ne 51, 3) := by decide +kernel
theorem dX8_goesPair_145 : decode cX8_goesPair 145 = .ok (.aload_n 0, 1) := by decide +kernel
theorem dX8_goesPair_146 : decode cX8_goesPair 146 = .ok (.iload_n 1, 1) := by decide +kernel
theorem dX8_goesPair_147 : decode cX8_goesPair 147 = .ok (.iload_n 3, 1) := by decide +kernel
theorem dX8_goesPair_148 : decode cX8_goesPair 148 = .ok (.invokevirtual 280, 3) := by decide +kernel
theorem dX8_goesPair_151 : decode cX8_goesPair 151 = .ok (.ifCond .ne 6, 3) := by decide +kernel
theorem dX8_goesPair_154 : decode cX8_goesPair 154 = .ok (.goto 39, 3) := by decide +kernel
theorem dX8_goesPair_157 : decode cX8_goesPair 157 = .ok (.aload_n 0, 1) := by decide +kernel
theorem dX8_goesPair_158 : decode cX8_goesPair 158 = .ok (.getfield 60, 3) := by decide +kernel
theorem dX8_goesPair_161 : decode cX8_goesPair 161 = .ok (.iload_n 1, 1) := by decide +kernel
theorem dX8_goesPair_162 : decode cX8_goesPair 162 = .ok (.iload_n 3, 1) := by decide +kernel
theorem dX8_goesPair_163 : decode cX8_goesPair 163 = .ok (.iastore, 1) := by decide +kernel
theorem dX8_goesPair_164 : decode cX8_goesPair 164 = .ok (.aload_n 0, 1) := by decide +kernel
theorem dX8_goesPair_165 : decode cX8_goesPair 165 = .ok (.getfield 60, 3) := by decide +kernel
theorem dX8_goesPair_168 : decode cX8_goesPair 168 = .ok (.iload_n 3, 1) := by decide +kernel
theorem dX8_goesPair_169 : decode cX8_goesPair 169 = .ok (.iload_n 1, 1) := by decide +kernel
theorem dX8_goesPair_170 : decode cX8_goesPair 170 = .ok (.iastore, 1) := by decide +kernel
theorem dX8_goesPair_171 : decode cX8_goesPair 171 = .ok (.aload_n 0, 1) := by decide +kernel
theorem dX8_goesPair_172 : decode cX8_goesPair 172 = .ok (.iload_n 1, 1) := by decide +kernel
theorem dX8_goesPair_173 : decode cX8_goesPair 173 = .ok (.iconst 1, 1) := by decide +kernel
theorem dX8_goesPair_174 : decode cX8_goesPair 174 = .ok (.iadd, 1) := by decide +kernel
theorem dX8_goesPair_175 : decode cX8_goesPair 175 = .ok (.iload_n 2, 1) := by decide +kernel
theorem dX8_goesPair_176 : decode cX8_goesPair 176 = .ok (.invokevirtual 397, 3) := by decide +kernel
theorem dX8_goesPair_179 : decode cX8_goesPair 179 = .ok (.aload_n 0, 1) := by decide +kernel
theorem dX8_goesPair_180 : decode cX8_goesPair 180 = .ok (.getfield 60, 3) := by decide +kernel
theorem dX8_goesPair_183 : decode cX8_goesPair 183 = .ok (.iload_n 1, 1) := by decide +kernel
theorem dX8_goesPair_184 : decode cX8_goesPair 184 = .ok (.iconst (-1), 1) := by decide +kernel
theorem dX8_goesPair_185 : decode cX8_goesPair 185 = .ok (.iastore, 1) := by decide +kernel
theorem dX8_goesPair_186 : decode cX8_goesPair 186 = .ok (.aload_n 0, 1) := by decide +kernel
theorem dX8_goesPair_187 : decode cX8_goesPair 187 = .ok (.getfield 60, 3) := by decide +kernel
theorem dX8_goesPair_190 : decode cX8_goesPair 190 = .ok (.iload_n 3, 1) := by decide +kernel
theorem dX8_goesPair_191 : decode cX8_goesPair 191 = .ok (.iconst (-1), 1) := by decide +kernel
theorem dX8_goesPair_192 : decode cX8_goesPair 192 = .ok (.iastore, 1) := by decide +kernel
theorem dX8_goesPair_193 : decode cX8_goesPair 193 = .ok (.iinc 3 1, 3) := by decide +kernel
theorem dX8_goesPair_196 : decode cX8_goesPair 196 = .ok (.goto (-80), 3) := by decide +kernel
theorem dX8_goesPair_199 : decode cX8_goesPair 199 = .ok (.return_, 1) := by decide +kernel
def f_X8_goesPair_95 (q_X8_goesPair : Int32 → Int32 → zS → Option (Unit × zS)) (v1 : Int32) (v2 : Int32) (s : zS) : Option (Unit × zS) :=
  zbd (q_X8_goesPair (v1 + (1 : Int32)) v2 s) fun _ s1 =>
  some ((), s1)
set_option maxRecDepth 20000 in
theorem b_X8_goesPair_95 {X : zX} {dd : Nat} {q_X8_goesPair : Int32 → Int32 → zS → Option (Unit × zS)} (hX : zx_ok X cX8_goesPair RX8 4) (hT : zx_rt X none (zR (3 + dd + 1) (69 + (dd + 1) * 23))) (hq_X8_goesPair : ∀ (v1 : Int32) (v2 : Int32) (s : zS), zM (zx_Y X) yX8_goesPair cX8_goesPair 4 none (zR (3 + dd) (69 + dd * 23)) [.ref (zx_ad X 76), .int v1, .int v2] s zrV (q_X8_goesPair v1 v2 s)) : ∀ (v1 : Int32) (v2 : Int32) (s : zS), zV X (zq X zrV) 4 95 [(0, .ref (zx_ad X 76)), (1, .int v1), (2, .int v2)] [] s (f_X8_goesPair_95 q_X8_goesPair v1 v2 s) := by
  have hDP : zDP = 64 := rfl
  intro v1 v2 s
  unfold f_X8_goesPair_95
  refine zv_aload_n hX dX8_goesPair_95 0 rfl ?_
  refine zv_iload_n hX dX8_goesPair_96 1 rfl ?_
  refine zv_iconst (v := (1 : Int32)) hX dX8_goesPair_97 zi_i_1 ?_
  refine zv_iadd hX dX8_goesPair_98 ?_
  refine zv_iload_n hX dX8_goesPair_99 2 rfl ?_
  refine zv_cVV [.int (v1 + (1 : Int32)), .int v2] (rest := []) hX hT.2.2.2.2 (hq_X8_goesPair (v1 + (1 : Int32)) v2 s) wv_X8_goesPair c9_8 zd_76 wm_X8_397 rfl (by omega) (by omega) rfl (Nat.le_of_ble_eq_true rfl) dX8_goesPair_100 (fun _ s1 => ?_)
  exact zv_vret hX hT dX8_goesPair_103
def f_X8_goesPair_193 (q_X8_goesPair : Int32 → Int32 → zS → Option (Unit × zS)) (kb_116 : Int32 → Int32 → Int32 → zS → Option (Unit × zS)) (v1 : Int32) (v2 : Int32) (v3 : Int32) (s : zS) : Option (Unit × zS) :=
  zb (v3 + (1 : Int32)) fun x2 =>
  kb_116 v1 v2 x2 s
set_option maxRecDepth 20000 in
theorem b_X8_goesPair_193 {X : zX} {dd : Nat} {q_X8_goesPair : Int32 → Int32 → zS → Option (Unit × zS)} {kb_116 : Int32 → Int32 → Int32 → zS → Option (Unit × zS)} (hX : zx_ok X cX8_goesPair RX8 4) (hT : zx_rt X none (zR (3 + dd + 1) (69 + (dd + 1) * 23))) (hq_X8_goesPair : ∀ (v1 : Int32) (v2 : Int32) (s : zS), zM (zx_Y X) yX8_goesPair cX8_goesPair 4 none (zR (3 + dd) (69 + dd * 23)) [.ref (zx_ad X 76), .int v1, .int v2] s zrV (q_X8_goesPair v1 v2 s)) (hk_116 : ∀ (v1 : Int32) (v2 : Int32) (v3 : Int32) (s : zS), zV X (zq X zrV) 4 116 [(0, .ref (zx_ad X 76)), (1, .int v1), (2, .int v2), (3, .int v3)] [] s (kb_116 v1 v2 v3 s)) : ∀ (v1 : Int32) (v2 : Int32) (v3 : Int32) (s : zS), zV X (zq X zrV) 4 193 [(0, .ref (zx_ad X 76)), (1, .int v1), (2, .int v2), (3, .int v3)] [] s (f_X8_goesPair_193 q_X8_goesPair kb_116 v1 v2 v3 s) := by
  have hDP : zDP = 64 := rfl
  intro v1 v2 v3 s
  unfold f_X8_goesPair_193
  refine zv_iincB (lw := fun x2 => [(3, .int x2), (0, .ref (zx_ad X 76)), (1, .int v1), (2, .int v2)]) hX dX8_goesPair_193 3 rfl zi_i_1 (by decide) (fun _ => rfl) (fun x2 => ?_)
  refine zv_goto (tgt := 116) hX dX8_goesPair_196 rfl ?_
  exact zv_sub [1, 2, 3, 0] rfl (hk_116 v1 v2 x2 s)
def f_X8_goesPair_116 (q_X8_goesPair : Int32 → Int32 → zS → Option (Unit × zS)) : Nat → Int32 → Int32 → Int32 → zS → Option (Unit × zS)
  | 0, _, _, _, _ => none
  | n + 1, v1, v2, v3, s =>
    (zr_i s 77 (1 : Int32)).bind fun x3 =>
    if x3 ≤ v3 then
    (some ((), s))
    else
    zbd (f_X8_isIn (v2.toInt64) v3 s) fun r4 s5 =>
    if r4 = 0 then
    (f_X8_goesPair_193 q_X8_goesPair (f_X8_goesPair_116 q_X8_goesPair n) v1 v2 v3 s5)
    else
    (zr_i s5 91 v3).bind fun x6 =>
    if ¬ x6 = (-1 : Int32) then
    (f_X8_goesPair_193 q_X8_goesPair (f_X8_goesPair_116 q_X8_goesPair n) v1 v2 v3 s5)
    else
    zbd (f_X8_areMatch v1 v3 s5) fun r7 s8 =>
    if ¬ r7 = 0 then
    ((zw_i s8 91 v1 v3).bind fun s9 =>
    (zw_i s9 91 v3 v1).bind fun s10 =>
    zbd (q_X8_goesPair (v1 + (1 : Int32)) v2 s10) fun _ s11 =>
    (zw_i s11 91 v1 (-1 : Int32)).bind fun s12 =>
    (zw_i s12 91 v3 (-1 : Int32)).bind fun s13 =>
    f_X8_goesPair_193 q_X8_goesPair (f_X8_goesPair_116 q_X8_goesPair n) v1 v2 v3 s13)
    else
    f_X8_goesPair_193 q_X8_goesPair (f_X8_goesPair_116 q_X8_goesPair n) v1 v2 v3 s8
set_option maxRecDepth 20000 in
theorem b_X8_goesPair_116 {X : zX} {dd : Nat} {q_X8_goesPair : Int32 → Int32 → zS → Option (Unit × zS)} (hX : zx_ok X cX8_goesPair RX8 4) (hT : zx_rt X none (zR (3 + dd + 1) (69 + (dd + 1) * 23))) (hq_X8_goesPair : ∀ (v1 : Int32) (v2 : Int32) (s : zS), zM (zx_Y X) yX8_goesPair cX8_goesPair 4 none (zR (3 + dd) (69 + dd * 23)) [.ref (zx_ad X 76), .int v1, .int v2] s zrV (q_X8_goesPair v1 v2 s)) : ∀ (n : Nat) (v1 : Int32) (v2 : Int32) (v3 : Int32) (s : zS), zV X (zq X zrV) 4 116 [(0, .ref (zx_ad X 76)), (1, .int v1), (2, .int v2), (3, .int v3)] [] s (f_X8_goesPair_116 q_X8_goesPair n v1 v2 v3 s) := by
  have hDP : zDP = 64 := rfl
  intro n
  induction n with
  | zero => intro v1 v2 v3 s; exact zv_none
  | succ n ih =>
    intro v1 v2 v3 s
    rw [f_X8_goesPair_116]
    refine zv_iload_n hX dX8_goesPair_116 3 rfl ?_
    refine zv_aload_n hX dX8_goesPair_117 0 rfl ?_
    refine zv_geta hX wf_X8_13 wc_8 zd_76 zj_76_1 c9_8 zr_76_1 (by decide) dX8_goesPair_118 ?_
    refine zv_iconst (v := (1 : Int32)) hX dX8_goesPair_121 zi_i_1 ?_
    refine zv_iald hX dX8_goesPair_122 (fun x3 => ?_)
    refine zv_icmp_ge (tgt := 199) hX dX8_goesPair_123 rfl ?_ ?_
    · exact zv_vret hX hT dX8_goesPair_199
    · refine zv_iload_n hX dX8_goesPair_126 2 rfl ?_
      refine zv_i2l hX dX8_goesPair_127 ?_
      refine zv_iload_n hX dX8_goesPair_128 3 rfl ?_
      refine zv_cSI [.long (v2.toInt64), .int v3] (rest := []) hX hT.2.2.2.2 (c_X8_isIn (zx_Y X) (v2.toInt64) v3 s) wv_X8_isIn wm_X8_223 rfl (by omega) (by omega) rfl (Nat.le_of_ble_eq_true rfl) dX8_goesPair_129 (fun r4 s5 => ?_)
      refine zv_if_eq (tgt := 193) hX dX8_goesPair_132 rfl ?_ ?_
      · exact b_X8_goesPair_193 hX hT hq_X8_goesPair ih v1 v2 v3 s5
      · refine zv_aload_n hX dX8_goesPair_135 0 rfl ?_
        refine zv_geta hX wf_X8_60 wc_8 zd_76 zj_76_30 c9_8 zr_76_30 (by decide) dX8_goesPair_136 ?_
        refine zv_iload_n hX dX8_goesPair_139 3 rfl ?_
        refine zv_iald hX dX8_goesPair_140 (fun x6 => ?_)
        refine zv_iconst (v := (-1 : Int32)) hX dX8_goesPair_141 zi_i_m1 ?_
        refine zv_icmp_ne (tgt := 193) hX dX8_goesPair_142 rfl ?_ ?_
        · exact b_X8_goesPair_193 hX hT hq_X8_goesPair ih v1 v2 v3 s5
        · refine zv_aload_n hX dX8_goesPair_145 0 rfl ?_
          refine zv_iload_n hX dX8_goesPair_146 1 rfl ?_
          refine zv_iload_n hX dX8_goesPair_147 3 rfl ?_
          refine zv_cVI [.int v1, .int v3] (rest := []) hX hT.2.2.2.2 (c_X8_areMatch (zx_Y X) v1 v3 s5) wv_X8_areMatch c9_8 zd_76 wm_X8_280 rfl (by omega) (by omega) rfl (Nat.le_of_ble_eq_true rfl) dX8_goesPair_148 (fun r7 s8 => ?_)
          refine zv_if_ne (tgt := 157) hX dX8_goesPair_151 rfl ?_ ?_
          · refine zv_aload_n hX dX8_goesPair_157 0 rfl ?_
            refine zv_geta hX wf_X8_60 wc_8 zd_76 zj_76_30 c9_8 zr_76_30 (by decide) dX8_goesPair_158 ?_
            refine zv_iload_n hX dX8_goesPair_161 1 rfl ?_
            refine zv_iload_n hX dX8_goesPair_162 3 rfl ?_
            refine zv_iast hX dX8_goesPair_163 (fun s9 => ?_)
            refine zv_aload_n hX dX8_goesPair_164 0 rfl ?_
            refine zv_geta hX wf_X8_60 wc_8 zd_76 zj_76_30 c9_8 zr_76_30 (by decide) dX8_goesPair_165 ?_
            refine zv_iload_n hX dX8_goesPair_168 3 rfl ?_
            refine zv_iload_n hX dX8_goesPair_169 1 rfl ?_
            refine zv_iast hX dX8_goesPair_170 (fun s10 => ?_)
            refine zv_aload_n hX dX8_goesPair_171 0 rfl ?_
            refine zv_iload_n hX dX8_goesPair_172 1 rfl ?_
            refine zv_iconst (v := (1 : Int32)) hX dX8_goesPair_173 zi_i_1 ?_
            refine zv_iadd hX dX8_goesPair_174 ?_
            refine zv_iload_n hX dX8_goesPair_175 2 rfl ?_
            refine zv_cVV [.int (v1 + (1 : Int32)), .int v2] (rest := []) hX hT.2.2.2.2 (hq_X8_goesPair (v1 + (1 : Int32)) v2 s10) wv_X8_goesPair c9_8 zd_76 wm_X8_397 rfl (by omega) (by omega) rfl (Nat.le_of_ble_eq_true rfl) dX8_goesPair_176 (fun _ s11 => ?_)
            refine zv_aload_n hX dX8_goesPair_179 0 rfl ?_
            refine zv_geta hX wf_X8_60 wc_8 zd_76 zj_76_30 c9_8 zr_76_30 (by decide) dX8_goesPair_180 ?_
            refine zv_iload_n hX dX8_goesPair_183 1 rfl ?_
            refine zv_iconst (v := (-1 : Int32)) hX dX8_goesPair_184 zi_i_m1 ?_
            refine zv_iast hX dX8_goesPair_185 (fun s12 => ?_)
            refine zv_aload_n hX dX8_goesPair_186 0 rfl ?_
            refine zv_geta hX wf_X8_60 wc_8 zd_76 zj_76_30 c9_8 zr_76_30 (by decide) dX8_goesPair_187 ?_
            refine zv_iload_n hX dX8_goesPair_190 3 rfl ?_
            refine zv_iconst (v := (-1 : Int32)) hX dX8_goesPair_191 zi_i_m1 ?_
            refine zv_iast hX dX8_goesPair_192 (fun s13 => ?_)
            exact b_X8_goesPair_193 hX hT hq_X8_goesPair ih v1 v2 v3 s13
          · refine zv_goto (tgt := 193) hX dX8_goesPair_154 rfl ?_
            exact b_X8_goesPair_193 hX hT hq_X8_goesPair ih v1 v2 v3 s8
def f_X8_goesPair_33 (q_X8_goesPair : Int32 → Int32 → zS → Option (Unit × zS)) : Nat → Int32 → zS → Option (Unit × zS)
  | 0, _, _ => none
  | n + 1, v3, s =>
    if (nI 7) ≤ v3 then
    (zb (zs_i s 76 32 ((s.1 76 32) + (1 : Int32))) fun s14 =>
    some ((), s14))
    else
    (zr_i s 91 v3).bind fun x15 =>
    (zw_i s 92 (((nI 7) * (s.1 76 32)) + v3) x15).bind fun s16 =>
    zb (v3 + (1 : Int32)) fun x17 =>
    f_X8_goesPair_33 q_X8_goesPair n x17 s16
set_option maxRecDepth 20000 in
theorem b_X8_goesPair_33 {X : zX} {dd : Nat} {q_X8_goesPair : Int32 → Int32 → zS → Option (Unit × zS)} (hX : zx_ok X cX8_goesPair RX8 4) (hT : zx_rt X none (zR (3 + dd + 1) (69 + (dd + 1) * 23))) (hq_X8_goesPair : ∀ (v1 : Int32) (v2 : Int32) (s : zS), zM (zx_Y X) yX8_goesPair cX8_goesPair 4 none (zR (3 + dd) (69 + dd * 23)) [.ref (zx_ad X 76), .int v1, .int v2] s zrV (q_X8_goesPair v1 v2 s)) : ∀ (n : Nat) (v3 : Int32) (s : zS), zV X (zq X zrV) 4 33 [(0, .ref (zx_ad X 76)), (3, .int v3)] [] s (f_X8_goesPair_33 q_X8_goesPair n v3 s) := by
  have hDP : zDP = 64 := rfl
  intro n
  induction n with
  | zero => intro v3 s; exact zv_none
  | succ n ih =>
    intro v3 s
    rw [f_X8_goesPair_33]
    refine zv_iload_n hX dX8_goesPair_33 1 rfl ?_
    refine zv_bipush (v := (nI 7)) hX dX8_goesPair_34 zi_b_7 ?_
    refine zv_icmp_ge (tgt := 65) hX dX8_goesPair_36 rfl ?_ ?_
    · refine zv_aload_n hX dX8_goesPair_65 0 rfl ?_
      refine zv_dup hX dX8_goesPair_66 rfl ?_
      refine zv_geti hX wf_X8_391 wc_8 zd_76 zj_76_32 c9_8 zr_76_32 dX8_goesPair_67 ?_
      refine zv_iconst (v := (1 : Int32)) hX dX8_goesPair_70 zi_i_1 ?_
      refine zv_iadd hX dX8_goesPair_71 ?_
      refine zv_puti hX wf_X8_391 wc_8 wk_8_32 zd_76 zj_76_32 c9_8 zr_76_32 dX8_goesPair_72 (fun s14 => ?_)
      exact zv_vret hX hT dX8_goesPair_75
    · refine zv_aload_n hX dX8_goesPair_39 0 rfl ?_
      refine zv_geta hX wf_X8_63 wc_8 zd_76 zj_76_31 c9_8 zr_76_31 (by decide) dX8_goesPair_40 ?_
      refine zv_bipush (v := (nI 7)) hX dX8_goesPair_43 zi_b_7 ?_
      refine zv_aload_n hX dX8_goesPair_45 0 rfl ?_
      refine zv_geti hX wf_X8_391 wc_8 zd_76 zj_76_32 c9_8 zr_76_32 dX8_goesPair_46 ?_
      refine zv_imul hX dX8_goesPair_49 ?_
      refine zv_iload_n hX dX8_goesPair_50 1 rfl ?_
      refine zv_iadd hX dX8_goesPair_51 ?_
      refine zv_aload_n hX dX8_goesPair_52 0 rfl ?_
      refine zv_geta hX wf_X8_60 wc_8 zd_76 zj_76_30 c9_8 zr_76_30 (by decide) dX8_goesPair_53 ?_
      refine zv_iload_n hX dX8_goesPair_56 1 rfl ?_
      refine zv_iald hX dX8_goesPair_57 (fun x15 => ?_)
      refine zv_iast hX dX8_goesPair_58 (fun s16 => ?_)
      refine zv_iincB (lw := fun x17 => [(3, .int x17), (0, .ref (zx_ad X 76))]) hX dX8_goesPair_59 1 rfl zi_i_1 (by decide) (fun _ => rfl) (fun x17 => ?_)
      refine zv_goto (tgt := 33) hX dX8_goesPair_62 rfl ?_
      exact zv_sub [1, 0] rfl (ih x17 s16)
def g_X8_goesPair (q_X8_goesPair : Int32 → Int32 → zS → Option (Unit × zS)) (v1 : Int32) (v2 : Int32) (s : zS) : Option (Unit × zS) :=
  if ¬ (s.1 76 32) = (s.1 76 33) then
  ((zr_i s 77 (1 : Int32)).bind fun x18 =>
  if ¬ v1 = x18 then
  (zbd (f_X8_isIn (v2.toInt64) v1 s) fun r19 s20 =>
  if r19 = 0 then
  (f_X8_goesPair_95 q_X8_goesPair v1 v2 s20)
  else
  (zr_i s20 91 v1).bind fun x21 =>
  if x21 = (-1 : Int32) then
  (zbd (q_X8_goesPair (v1 + (1 : Int32)) v2 s20) fun _ s22 =>
  zb (v1 + (1 : Int32)) fun x23 =>
  f_X8_goesPair_116 q_X8_goesPair zFU v1 v2 x23 s22)
  else
  f_X8_goesPair_95 q_X8_goesPair v1 v2 s20)
  else
  zbd (f_X8_isHeld v2 s) fun r24 s25 =>
  if ¬ r24 = 0 then
  (f_X8_goesPair_33 q_X8_goesPair zFU (0 : Int32) s25)
  else
  some ((), s25))
  else
  some ((), s)
set_option maxRecDepth 20000 in
theorem e_X8_goesPair {X : zX} {dd : Nat} {q_X8_goesPair : Int32 → Int32 → zS → Option (Unit × zS)} (hX : zx_ok X cX8_goesPair RX8 4) (hT : zx_rt X none (zR (3 + dd + 1) (69 + (dd + 1) * 23))) (hq_X8_goesPair : ∀ (v1 : Int32) (v2 : Int32) (s : zS), zM (zx_Y X) yX8_goesPair cX8_goesPair 4 none (zR (3 + dd) (69 + dd * 23)) [.ref (zx_ad X 76), .int v1, .int v2] s zrV (q_X8_goesPair v1 v2 s)) : ∀ (v1 : Int32) (v2 : Int32) (s : zS), zV X (zq X zrV) 4 0 [(0, .ref (zx_ad X 76)), (1, .int v1), (2, .int v2)] [] s (g_X8_goesPair q_X8_goesPair v1 v2 s) := by
  have hDP : zDP = 64 := rfl
  intro v1 v2 s
  unfold g_X8_goesPair
  refine zv_aload_n hX dX8_goesPair_0 0 rfl ?_
  refine zv_geti hX wf_X8_391 wc_8 zd_76 zj_76_32 c9_8 zr_76_32 dX8_goesPair_1 ?_
  refine zv_aload_n hX dX8_goesPair_4 0 rfl ?_
  refine zv_geti hX wf_X8_394 wc_8 zd_76 zj_76_33 c9_8 zr_76_33 dX8_goesPair_5 ?_
  refine zv_icmp_ne (tgt := 12) hX dX8_goesPair_8 rfl ?_ ?_
  · refine zv_iload_n hX dX8_goesPair_12 1 rfl ?_
    refine zv_aload_n hX dX8_goesPair_13 0 rfl ?_
    refine zv_geta hX wf_X8_13 wc_8 zd_76 zj_76_1 c9_8 zr_76_1 (by decide) dX8_goesPair_14 ?_
    refine zv_iconst (v := (1 : Int32)) hX dX8_goesPair_17 zi_i_1 ?_
    refine zv_iald hX dX8_goesPair_18 (fun x18 => ?_)
    refine zv_icmp_ne (tgt := 76) hX dX8_goesPair_19 rfl ?_ ?_
    · refine zv_iload_n hX dX8_goesPair_76 2 rfl ?_
      refine zv_i2l hX dX8_goesPair_77 ?_
      refine zv_iload_n hX dX8_goesPair_78 1 rfl ?_
      refine zv_cSI [.long (v2.toInt64), .int v1] (rest := []) hX hT.2.2.2.2 (c_X8_isIn (zx_Y X) (v2.toInt64) v1 s) wv_X8_isIn wm_X8_223 rfl (by omega) (by omega) rfl (Nat.le_of_ble_eq_true rfl) dX8_goesPair_79 (fun r19 s20 => ?_)
      refine zv_if_eq (tgt := 95) hX dX8_goesPair_82 rfl ?_ ?_
      · exact b_X8_goesPair_95 hX hT hq_X8_goesPair v1 v2 s20
      · refine zv_aload_n hX dX8_goesPair_85 0 rfl ?_
        refine zv_geta hX wf_X8_60 wc_8 zd_76 zj_76_30 c9_8 zr_76_30 (by decide) dX8_goesPair_86 ?_
        refine zv_iload_n hX dX8_goesPair_89 1 rfl ?_
        refine zv_iald hX dX8_goesPair_90 (fun x21 => ?_)
        refine zv_iconst (v := (-1 : Int32)) hX dX8_goesPair_91 zi_i_m1 ?_
        refine zv_icmp_eq (tgt := 104) hX dX8_goesPair_92 rfl ?_ ?_
        · refine zv_aload_n hX dX8_goesPair_104 0 rfl ?_
          refine zv_iload_n hX dX8_goesPair_105 1 rfl ?_
          refine zv_iconst (v := (1 : Int32)) hX dX8_goesPair_106 zi_i_1 ?_
          refine zv_iadd hX dX8_goesPair_107 ?_
          refine zv_iload_n hX dX8_goesPair_108 2 rfl ?_
          refine zv_cVV [.int (v1 + (1 : Int32)), .int v2] (rest := []) hX hT.2.2.2.2 (hq_X8_goesPair (v1 + (1 : Int32)) v2 s20) wv_X8_goesPair c9_8 zd_76 wm_X8_397 rfl (by omega) (by omega) rfl (Nat.le_of_ble_eq_true rfl) dX8_goesPair_109 (fun _ s22 => ?_)
          refine zv_iload_n hX dX8_goesPair_112 1 rfl ?_
          refine zv_iconst (v := (1 : Int32)) hX dX8_goesPair_113 zi_i_1 ?_
          refine zv_iadd hX dX8_goesPair_114 ?_
          refine zv_istB_n (lw := fun x23 => [(3, .int x23), (0, .ref (zx_ad X 76)), (1, .int v1), (2, .int v2)]) hX dX8_goesPair_115 (by decide) (fun _ => rfl) (fun x23 => ?_)
          exact zv_sub [1, 2, 3, 0] rfl (b_X8_goesPair_116 hX hT hq_X8_goesPair zFU v1 v2 x23 s22)
        · exact b_X8_goesPair_95 hX hT hq_X8_goesPair v1 v2 s20
    · refine zv_aload_n hX dX8_goesPair_22 0 rfl ?_
      refine zv_iload_n hX dX8_goesPair_23 2 rfl ?_
      refine zv_cVI [.int v2] (rest := []) hX hT.2.2.2.2 (c_X8_isHeld (zx_Y X) v2 s) wv_X8_isHeld c9_8 zd_76 wm_X8_385 rfl (by omega) (by omega) rfl (Nat.le_of_ble_eq_true rfl) dX8_goesPair_24 (fun r24 s25 => ?_)
      refine zv_if_ne (tgt := 31) hX dX8_goesPair_27 rfl ?_ ?_
      · refine zv_iconst (v := (0 : Int32)) hX dX8_goesPair_31 zi_i_0 ?_
        refine zv_istore_n (lv' := [(3, .int (0 : Int32)), (0, .ref (zx_ad X 76)), (1, .int v1), (2, .int v2)]) hX dX8_goesPair_32 (by decide) rfl ?_
        exact zv_sub [1, 0] rfl (b_X8_goesPair_33 hX hT hq_X8_goesPair zFU (0 : Int32) s25)
      · exact zv_vret hX hT dX8_goesPair_30
  · exact zv_vret hX hT dX8_goesPair_11
def f_X8_goesPair : Nat → Int32 → Int32 → zS → Option (Unit × zS)
  | 0, _, _, _ => none
  | d + 1, v1, v2, s => g_X8_goesPair (f_X8_goesPair d) v1 v2 s
theorem c_X8_goesPair (Y : zG) : ∀ (d : Nat) (v1 : Int32) (v2 : Int32) (s : zS), zM Y yX8_goesPair cX8_goesPair 4 none (zR (3 + d) (69 + d * 23)) [.ref (zy_a Y 76), .int v1, .int v2] s zrV (f_X8_goesPair d v1 v2 s) := by
  intro d
  induction d with
  | zero => intro v1 v2 s rr h; cases h
  | succ d ih =>
    intro v1 v2 s
    refine zm_start (by decide +kernel) (Nat.le_of_ble_eq_true rfl) ?_
    intro X hY hT hX
    subst hY
    have hX : zx_ok X cX8_goesPair RX8 4 := hX
    show zV X (zq X zrV) 4 0 [(0, .ref (zx_ad X 76)), (1, .int v1), (2, .int v2)] [] s (g_X8_goesPair (f_X8_goesPair d) v1 v2 s)
    exact e_X8_goesPair (dd := d) hX hT ih v1 v2 s
theorem dX8_laysHeldOf_0 : decode cX8_laysHeldOf 0 = .ok (.aload_n 0, 1) := by decide +kernel
theorem dX8_laysHeldOf_1 : decode cX8_laysHeldOf 1 = .ok (.iconst 0, 1) := by decide +kernel
theorem dX8_laysHeldOf_2 : decode cX8_laysHeldOf 2 = .ok (.putfield 391, 3) := by decide +kernel
theorem dX8_laysHeldOf_5 : decode cX8_laysHeldOf 5 = .ok (.aload_n 0, 1) := by decide +kernel
theorem dX8_laysHeldOf_6 : decode cX8_laysHeldOf 6 = .ok (.iload_n 2, 1) := by decide +kernel
theorem dX8_laysHeldOf_7 : decode cX8_laysHeldOf 7 = .ok (.putfield 394, 3) := by decide +kernel
theorem dX8_laysHeldOf_10 : decode cX8_laysHeldOf 10 = .ok (.iconst 0, 1) := by decide +kernel
theorem dX8_laysHeldOf_11 : decode cX8_laysHeldOf 11 = .ok (.istore_n 3, 1) := by decide +kernel
theorem dX8_laysHeldOf_12 : decode cX8_laysHeldOf 12 = .ok (.iload_n 3, 1) := by decide +kernel
theorem dX8_laysHeldOf_13 : decode cX8_laysHeldOf 13 = .ok (.bipush 7, 2) := by decide +kernel
theorem dX8_laysHeldOf_15 : decode cX8_laysHeldOf 15 = .ok (.if_icmp .ge 16, 3) := by decide +kernel
theorem dX8_laysHeldOf_18 : decode cX8_laysHeldOf 18 = .ok (.aload_n 0, 1) := by decide +kernel
theorem dX8_laysHeldOf_19 : decode cX8_laysHeldOf 19 = .ok (.getfield 60, 3) := by decide +kernel
theorem dX8_laysHeldOf_22 : decode cX8_laysHeldOf 22 = .ok (.iload_n 3, 1) := by decide +kernel
theorem dX8_laysHeldOf_23 : decode cX8_laysHeldOf 23 = .ok (.iconst (-1), 1) := by decide +kernel
theorem dX8_laysHeldOf_24 : decode cX8_laysHeldOf 24 = .ok (.iastore, 1) := by decide +kernel
theorem dX8_laysHeldOf_25 : decode cX8_laysHeldOf 25 = .ok (.iinc 3 1, 3) := by decide +kernel
theorem dX8_laysHeldOf_28 : decode cX8_laysHeldOf 28 = .ok (.goto (-16), 3) := by decide +kernel
theorem dX8_laysHeldOf_31 : decode cX8_laysHeldOf 31 = .ok (.aload_n 0, 1) := by decide +kernel
theorem dX8_laysHeldOf_32 : decode cX8_laysHeldOf 32 = .ok (.iconst 0, 1) := by decide +kernel
theorem dX8_laysHeldOf_33 : decode cX8_laysHeldOf 33 = .ok (.iload_n 1, 1) := by decide +kernel
theorem dX8_laysHeldOf_34 : decode cX8_laysHeldOf 34 = .ok (.invokevirtual 397, 3) := by decide +kernel
theorem dX8_laysHeldOf_37 : decode cX8_laysHeldOf 37 = .ok (.return_, 1) := by decide +kernel
def f_X8_laysHeldOf_12 : Nat → Int32 → Int32 → zS → Option (Unit × zS)
  | 0, _, _, _ => none
  | n + 1, v1, v3, s =>
    if (nI 7) ≤ v3 then
    (zbd (f_X8_goesPair zDP (0 : Int32) v1 s) fun _ s1 =>
    some ((), s1))
    else
    (zw_i s 91 v3 (-1 : Int32)).bind fun s2 =>
    zb (v3 + (1 : Int32)) fun x3 =>
    f_X8_laysHeldOf_12 n v1 x3 s2
set_option maxRecDepth 20000 in
theorem b_X8_laysHeldOf_12 {X : zX} (hX : zx_ok X cX8_laysHeldOf RX8 4) (hT : zx_rt X none (zR 68 1564)) : ∀ (n : Nat) (v1 : Int32) (v3 : Int32) (s : zS), zV X (zq X zrV) 4 12 [(0, .ref (zx_ad X 76)), (1, .int v1), (3, .int v3)] [] s (f_X8_laysHeldOf_12 n v1 v3 s) := by
  intro n
  induction n with
  | zero => intro v1 v3 s; exact zv_none
  | succ n ih =>
    intro v1 v3 s
    rw [f_X8_laysHeldOf_12]
    refine zv_iload_n hX dX8_laysHeldOf_12 2 rfl ?_
    refine zv_bipush (v := (nI 7)) hX dX8_laysHeldOf_13 zi_b_7 ?_
    refine zv_icmp_ge (tgt := 31) hX dX8_laysHeldOf_15 rfl ?_ ?_
    · refine zv_aload_n hX dX8_laysHeldOf_31 0 rfl ?_
      refine zv_iconst (v := (0 : Int32)) hX dX8_laysHeldOf_32 zi_i_0 ?_
      refine zv_iload_n hX dX8_laysHeldOf_33 1 rfl ?_
      refine zv_cVV [.int (0 : Int32), .int v1] (rest := []) hX hT.2.2.2.2 (c_X8_goesPair (zx_Y X) zDP (0 : Int32) v1 s) wv_X8_goesPair c9_8 zd_76 wm_X8_397 rfl (Nat.le_of_ble_eq_true rfl) (Nat.le_of_ble_eq_true rfl) rfl (Nat.le_of_ble_eq_true rfl) dX8_laysHeldOf_34 (fun _ s1 => ?_)
      exact zv_vret hX hT dX8_laysHeldOf_37
    · refine zv_aload_n hX dX8_laysHeldOf_18 0 rfl ?_
      refine zv_geta hX wf_X8_60 wc_8 zd_76 zj_76_30 c9_8 zr_76_30 (by decide) dX8_laysHeldOf_19 ?_
      refine zv_iload_n hX dX8_laysHeldOf_22 2 rfl ?_
      refine zv_iconst (v := (-1 : Int32)) hX dX8_laysHeldOf_23 zi_i_m1 ?_
      refine zv_iast hX dX8_laysHeldOf_24 (fun s2 => ?_)
      refine zv_iincB (lw := fun x3 => [(3, .int x3), (0, .ref (zx_ad X 76)), (1, .int v1)]) hX dX8_laysHeldOf_25 2 rfl zi_i_1 (by decide) (fun _ => rfl) (fun x3 => ?_)
      refine zv_goto (tgt := 12) hX dX8_laysHeldOf_28 rfl ?_
      exact zv_sub [1, 2, 0] rfl (ih v1 x3 s2)
def f_X8_laysHeldOf (v1 : Int32) (v2 : Int32) (s : zS) : Option (Unit × zS) :=
  zb (zs_i s 76 32 (0 : Int32)) fun s4 =>
  zb (zs_i s4 76 33 v2) fun s5 =>
  f_X8_laysHeldOf_12 zFU v1 (0 : Int32) s5
set_option maxRecDepth 20000 in
theorem c_X8_laysHeldOf (Y : zG) (v1 : Int32) (v2 : Int32) (s : zS) : zM Y yX8_laysHeldOf cX8_laysHeldOf 4 none (zR 68 1564) [.ref (zy_a Y 76), .int v1, .int v2] s zrV (f_X8_laysHeldOf v1 v2 s) := by
  refine zm_start (by decide +kernel) (Nat.le_of_ble_eq_true rfl) ?_
  intro X hY hT hX
  subst hY
  have hX : zx_ok X cX8_laysHeldOf RX8 4 := hX
  show zV X (zq X zrV) 4 0 [(0, .ref (zx_ad X 76)), (1, .int v1), (2, .int v2)] [] s _
  unfold f_X8_laysHeldOf
  refine zv_aload_n hX dX8_laysHeldOf_0 0 rfl ?_
  refine zv_iconst (v := (0 : Int32)) hX dX8_laysHeldOf_1 zi_i_0 ?_
  refine zv_puti hX wf_X8_391 wc_8 wk_8_32 zd_76 zj_76_32 c9_8 zr_76_32 dX8_laysHeldOf_2 (fun s4 => ?_)
  refine zv_aload_n hX dX8_laysHeldOf_5 0 rfl ?_
  refine zv_iload_n hX dX8_laysHeldOf_6 2 rfl ?_
  refine zv_puti hX wf_X8_394 wc_8 wk_8_33 zd_76 zj_76_33 c9_8 zr_76_33 dX8_laysHeldOf_7 (fun s5 => ?_)
  refine zv_iconst (v := (0 : Int32)) hX dX8_laysHeldOf_10 zi_i_0 ?_
  refine zv_istore_n (lv' := [(3, .int (0 : Int32)), (0, .ref (zx_ad X 76)), (1, .int v1), (2, .int v2)]) hX dX8_laysHeldOf_11 (by decide) rfl ?_
  exact zv_sub [1, 2, 0] rfl (b_X8_laysHeldOf_12 hX hT zFU v1 (0 : Int32) s5)
theorem dX8_laysHeld_0 : decode cX8_laysHeld 0 = .ok (.aload_n 0, 1) := by decide +kernel
theorem dX8_laysHeld_1 : decode cX8_laysHeld 1 = .ok (.invokevirtual 284, 3) := by decide +kernel
theorem dX8_laysHeld_4 : decode cX8_laysHeld 4 = .ok (.aload_n 0, 1) := by decide +kernel
theorem dX8_laysHeld_5 : decode cX8_laysHeld 5 = .ok (.aload_n 0, 1) := by decide +kernel
theorem dX8_laysHeld_6 : decode cX8_laysHeld 6 = .ok (.invokevirtual 382, 3) := by decide +kernel
theorem dX8_laysHeld_9 : decode cX8_laysHeld 9 = .ok (.sipush 232, 3) := by decide +kernel
theorem dX8_laysHeld_12 : decode cX8_laysHeld 12 = .ok (.invokevirtual 400, 3) := by decide +kernel
theorem dX8_laysHeld_15 : decode cX8_laysHeld 15 = .ok (.return_, 1) := by decide +kernel
def f_X8_laysHeld  (s : zS) : Option (Unit × zS) :=
  zbd (f_X8_lays s) fun _ s1 =>
  zbd (f_X8_everybody s1) fun r2 s3 =>
  zbd (f_X8_laysHeldOf r2 (nI 232) s3) fun _ s4 =>
  some ((), s4)
set_option maxRecDepth 20000 in
theorem c_X8_laysHeld (Y : zG)  (s : zS) : zM Y yX8_laysHeld cX8_laysHeld 1 none (zR 71 1755) [.ref (zy_a Y 76)] s zrV (f_X8_laysHeld  s) := by
  refine zm_start (by decide +kernel) (Nat.le_of_ble_eq_true rfl) ?_
  intro X hY hT hX
  subst hY
  have hX : zx_ok X cX8_laysHeld RX8 1 := hX
  show zV X (zq X zrV) 1 0 [(0, .ref (zx_ad X 76))] [] s _
  unfold f_X8_laysHeld
  refine zv_aload_n hX dX8_laysHeld_0 0 rfl ?_
  refine zv_cVV [] (rest := []) hX hT.2.2.2.2 (c_X8_lays (zx_Y X) s) wv_X8_lays c9_8 zd_76 wm_X8_284 rfl (Nat.le_of_ble_eq_true rfl) (Nat.le_of_ble_eq_true rfl) rfl (Nat.le_of_ble_eq_true rfl) dX8_laysHeld_1 (fun _ s1 => ?_)
  refine zv_aload_n hX dX8_laysHeld_4 0 rfl ?_
  refine zv_aload_n hX dX8_laysHeld_5 0 rfl ?_
  refine zv_cVI [] (rest := [.ref (zx_ad X 76)]) hX hT.2.2.2.2 (c_X8_everybody (zx_Y X) s1) wv_X8_everybody c9_8 zd_76 wm_X8_382 rfl (Nat.le_of_ble_eq_true rfl) (Nat.le_of_ble_eq_true rfl) rfl (Nat.le_of_ble_eq_true rfl) dX8_laysHeld_6 (fun r2 s3 => ?_)
  refine zv_sipush (v := (nI 232)) hX dX8_laysHeld_9 zi_s_232 ?_
  refine zv_cVV [.int r2, .int (nI 232)] (rest := []) hX hT.2.2.2.2 (c_X8_laysHeldOf (zx_Y X) r2 (nI 232) s3) wv_X8_laysHeldOf c9_8 zd_76 wm_X8_400 rfl (Nat.le_of_ble_eq_true rfl) (Nat.le_of_ble_eq_true rfl) rfl (Nat.le_of_ble_eq_true rfl) dX8_laysHeld_12 (fun _ s4 => ?_)
  exact zv_vret hX hT dX8_laysHeld_15
theorem dX8_can_0 : decode cX8_can 0 = .ok (.aload_n 0, 1) := by decide +kernel
theorem dX8_can_1 : decode cX8_can 1 = .ok (.iconst 0, 1) := by decide +kernel
theorem dX8_can_2 : decode cX8_can 2 = .ok (.putfield 1, 3) := by decide +kernel
theorem dX8_can_5 : decode cX8_can 5 = .ok (.aload_n 0, 1) := by decide +kernel
theorem dX8_can_6 : decode cX8_can 6 = .ok (.iload_n 1, 1) := by decide +kernel
theorem dX8_can_7 : decode cX8_can 7 = .ok (.i2l, 1) := by decide +kernel
theorem dX8_can_8 : decode cX8_can 8 = .ok (.invokevirtual 219, 3) := by decide +kernel
theorem dX8_can_11 : decode cX8_can 11 = .ok (.ifCond .ne 6, 3) := by decide +kernel
theorem dX8_can_14 : decode cX8_can 14 = .ok (.bipush (-2), 2) := by decide +kernel
theorem dX8_can_16 : decode cX8_can 16 = .ok (.ireturn, 1) := by decide +kernel
theorem dX8_can_17 : decode cX8_can 17 = .ok (.aload_n 0, 1) := by decide +kernel
theorem dX8_can_18 : decode cX8_can 18 = .ok (.invokevirtual 403, 3) := by decide +kernel
theorem dX8_can_21 : decode cX8_can 21 = .ok (.iconst 0, 1) := by decide +kernel
theorem dX8_can_22 : decode cX8_can 22 = .ok (.istore_n 2, 1) := by decide +kernel
theorem dX8_can_23 : decode cX8_can 23 = .ok (.iconst 0, 1) := by decide +kernel
theorem dX8_can_24 : decode cX8_can 24 = .ok (.istore_n 3, 1) := by decide +kernel
theorem dX8_can_25 : decode cX8_can 25 = .ok (.iload_n 3, 1) := by decide +kernel
theorem dX8_can_26 : decode cX8_can 26 = .ok (.aload_n 0, 1) := by decide +kernel
theorem dX8_can_27 : decode cX8_can 27 = .ok (.getfield 391, 3) := by decide +kernel
theorem dX8_can_30 : decode cX8_can 30 = .ok (.if_icmp .ge 44, 3) := by decide +kernel
theorem dX8_can_33 : decode cX8_can 33 = .ok (.iload_n 2, 1) := by decide +kernel
theorem dX8_can_34 : decode cX8_can 34 = .ok (.aload_n 0, 1) := by decide +kernel
theorem dX8_can_35 : decode cX8_can 35 = .ok (.getfield 63, 3) := by decide +kernel
theorem dX8_can_38 : decode cX8_can 38 = .ok (.bipush 7, 2) := by decide +kernel
theorem dX8_can_40 : decode cX8_can 40 = .ok (.iload_n 3, 1) := by decide +kernel
theorem dX8_can_41 : decode cX8_can 41 = .ok (.imul, 1) := by decide +kernel
theorem dX8_can_42 : decode cX8_can 42 = .ok (.iload_n 1, 1) := by decide +kernel
theorem dX8_can_43 : decode cX8_can 43 = .ok (.iadd, 1) := by decide +kernel
theorem dX8_can_44 : decode cX8_can 44 = .ok (.iaload, 1) := by decide +kernel
theorem dX8_can_45 : decode cX8_can 45 = .ok (.iconst (-1), 1) := by decide +kernel
theorem dX8_can_46 : decode cX8_can 46 = .ok (.if_icmp .ne 7, 3) := by decide +kernel
theorem dX8_can_49 : decode cX8_can 49 = .ok (.iconst 0, 1) := by decide +kernel
theorem dX8_can_50 : decode cX8_can 50 = .ok (.goto 16, 3) := by decide +kernel
theorem dX8_can_53 : decode cX8_can 53 = .ok (.iconst 1, 1) := by decide +kernel
theorem dX8_can_54 : decode cX8_can 54 = .ok (.aload_n 0, 1) := by decide +kernel
theorem dX8_can_55 : decode cX8_can 55 = .ok (.getfield 63, 3) := by decide +kernel
theorem dX8_can_58 : decode cX8_can 58 = .ok (.bipush 7, 2) := by decide +kernel
theorem dX8_can_60 : decode cX8_can 60 = .ok (.iload_n 3, 1) := by decide +kernel
theorem dX8_can_61 : decode cX8_can 61 = .ok (.imul, 1) := by decide +kernel
theorem dX8_can_62 : decode cX8_can 62 = .ok (.iload_n 1, 1) := by decide +kernel
theorem dX8_can_63 : decode cX8_can 63 = .ok (.iadd, 1) := by decide +kernel
theorem dX8_can_64 : decode cX8_can 64 = .ok (.iaload, 1) := by decide +kernel
theorem dX8_can_65 : decode cX8_can 65 = .ok (.ishl, 1) := by decide +kernel
theorem dX8_can_66 : decode cX8_can 66 = .ok (.ior, 1) := by decide +kernel
theorem dX8_can_67 : decode cX8_can 67 = .ok (.istore_n 2, 1) := by decide +kernel
theorem dX8_can_68 : decode cX8_can 68 = .ok (.iinc 3 1, 3) := by decide +kernel
theorem dX8_can_71 : decode cX8_can 71 = .ok (.goto (-46), 3) := by decide +kernel
theorem dX8_can_74 : decode cX8_can 74 = .ok (.iload_n 2, 1) := by decide +kernel
theorem dX8_can_75 : decode cX8_can 75 = .ok (.ireturn, 1) := by decide +kernel
def f_X8_can_66 (kb_25 : Int32 → Int32 → Int32 → zS → Option (Int32 × zS)) (v1 : Int32) (v3 : Int32) (w0 : Int32) (w1 : Int32) (s : zS) : Option (Int32 × zS) :=
  zb (w1 ||| w0) fun x1 =>
  zb (v3 + (1 : Int32)) fun x2 =>
  kb_25 v1 x1 x2 s
set_option maxRecDepth 20000 in
theorem b_X8_can_66 {X : zX} {kb_25 : Int32 → Int32 → Int32 → zS → Option (Int32 × zS)} (hX : zx_ok X cX8_can RX8 4) (hT : zx_rt X (some .int) (zR 72 1775)) (hk_25 : ∀ (v1 : Int32) (v2 : Int32) (v3 : Int32) (s : zS), zV X (zq X zrI) 4 25 [(0, .ref (zx_ad X 76)), (1, .int v1), (2, .int v2), (3, .int v3)] [] s (kb_25 v1 v2 v3 s)) : ∀ (v1 : Int32) (v3 : Int32) (w0 : Int32) (w1 : Int32) (s : zS), zV X (zq X zrI) 4 66 [(0, .ref (zx_ad X 76)), (1, .int v1), (3, .int v3)] [.int w0, .int w1] s (f_X8_can_66 kb_25 v1 v3 w0 w1 s) := by
  intro v1 v3 w0 w1 s
  unfold f_X8_can_66
  refine zv_ior hX dX8_can_66 ?_
  refine zv_istB_n (lw := fun x1 => [(2, .int x1), (0, .ref (zx_ad X 76)), (1, .int v1), (3, .int v3)]) hX dX8_can_67 (by decide) (fun _ => rfl) (fun x1 => ?_)
  refine zv_iincB (lw := fun x2 => [(3, .int x2), (2, .int x1), (0, .ref (zx_ad X 76)), (1, .int v1)]) hX dX8_can_68 3 rfl zi_i_1 (by decide) (fun _ => rfl) (fun x2 => ?_)
  refine zv_goto (tgt := 25) hX dX8_can_71 rfl ?_
  exact zv_sub [2, 3, 1, 0] rfl (hk_25 v1 x1 x2 s)
def f_X8_can_25 : Nat → Int32 → Int32 → Int32 → zS → Option (Int32 × zS)
  | 0, _, _, _, _ => none
  | n + 1, v1, v2, v3, s =>
    if (s.1 76 32) ≤ v3 then
    (some (v2, s))
    else
    (zr_i s 92 (((nI 7) * v3) + v1)).bind fun x3 =>
    if ¬ x3 = (-1 : Int32) then
    ((zr_i s 92 (((nI 7) * v3) + v1)).bind fun x4 =>
    f_X8_can_66 (f_X8_can_25 n) v1 v3 (zo_shl (1 : Int32) x4) v2 s)
    else
    f_X8_can_66 (f_X8_can_25 n) v1 v3 (0 : Int32) v2 s
set_option maxRecDepth 20000 in
theorem b_X8_can_25 {X : zX} (hX : zx_ok X cX8_can RX8 4) (hT : zx_rt X (some .int) (zR 72 1775)) : ∀ (n : Nat) (v1 : Int32) (v2 : Int32) (v3 : Int32) (s : zS), zV X (zq X zrI) 4 25 [(0, .ref (zx_ad X 76)), (1, .int v1), (2, .int v2), (3, .int v3)] [] s (f_X8_can_25 n v1 v2 v3 s) := by
  intro n
  induction n with
  | zero => intro v1 v2 v3 s; exact zv_none
  | succ n ih =>
    intro v1 v2 v3 s
    rw [f_X8_can_25]
    refine zv_iload_n hX dX8_can_25 3 rfl ?_
    refine zv_aload_n hX dX8_can_26 0 rfl ?_
    refine zv_geti hX wf_X8_391 wc_8 zd_76 zj_76_32 c9_8 zr_76_32 dX8_can_27 ?_
    refine zv_icmp_ge (tgt := 74) hX dX8_can_30 rfl ?_ ?_
    · refine zv_iload_n hX dX8_can_74 2 rfl ?_
      exact zv_ireti hX hT dX8_can_75
    · refine zv_iload_n hX dX8_can_33 2 rfl ?_
      refine zv_aload_n hX dX8_can_34 0 rfl ?_
      refine zv_geta hX wf_X8_63 wc_8 zd_76 zj_76_31 c9_8 zr_76_31 (by decide) dX8_can_35 ?_
      refine zv_bipush (v := (nI 7)) hX dX8_can_38 zi_b_7 ?_
      refine zv_iload_n hX dX8_can_40 3 rfl ?_
      refine zv_imul hX dX8_can_41 ?_
      refine zv_iload_n hX dX8_can_42 1 rfl ?_
      refine zv_iadd hX dX8_can_43 ?_
      refine zv_iald hX dX8_can_44 (fun x3 => ?_)
      refine zv_iconst (v := (-1 : Int32)) hX dX8_can_45 zi_i_m1 ?_
      refine zv_icmp_ne (tgt := 53) hX dX8_can_46 rfl ?_ ?_
      · refine zv_iconst (v := (1 : Int32)) hX dX8_can_53 zi_i_1 ?_
        refine zv_aload_n hX dX8_can_54 0 rfl ?_
        refine zv_geta hX wf_X8_63 wc_8 zd_76 zj_76_31 c9_8 zr_76_31 (by decide) dX8_can_55 ?_
        refine zv_bipush (v := (nI 7)) hX dX8_can_58 zi_b_7 ?_
        refine zv_iload_n hX dX8_can_60 3 rfl ?_
        refine zv_imul hX dX8_can_61 ?_
        refine zv_iload_n hX dX8_can_62 1 rfl ?_
        refine zv_iadd hX dX8_can_63 ?_
        refine zv_iald hX dX8_can_64 (fun x4 => ?_)
        refine zv_ishl hX dX8_can_65 ?_
        exact zv_sub [0, 1, 3] rfl (b_X8_can_66 hX hT ih v1 v3 (zo_shl (1 : Int32) x4) v2 s)
      · refine zv_iconst (v := (0 : Int32)) hX dX8_can_49 zi_i_0 ?_
        refine zv_goto (tgt := 66) hX dX8_can_50 rfl ?_
        exact zv_sub [0, 1, 3] rfl (b_X8_can_66 hX hT ih v1 v3 (0 : Int32) v2 s)
def f_X8_can (v1 : Int32) (s : zS) : Option (Int32 × zS) :=
  zb (zs_i s 76 0 (0 : Int32)) fun s5 =>
  zbd (f_X8_isPerson (v1.toInt64) s5) fun r6 s7 =>
  if ¬ r6 = 0 then
  (zbd (f_X8_laysHeld s7) fun _ s8 =>
  f_X8_can_25 zFU v1 (0 : Int32) (0 : Int32) s8)
  else
  some ((-2 : Int32), s7)
set_option maxRecDepth 20000 in
theorem c_X8_can (Y : zG) (v1 : Int32) (s : zS) : zM Y yX8_can cX8_can 4 (some .int) (zR 72 1775) [.ref (zy_a Y 76), .int v1] s zrI (f_X8_can v1 s) := by
  refine zm_start (by decide +kernel) (Nat.le_of_ble_eq_true rfl) ?_
  intro X hY hT hX
  subst hY
  have hX : zx_ok X cX8_can RX8 4 := hX
  show zV X (zq X zrI) 4 0 [(0, .ref (zx_ad X 76)), (1, .int v1)] [] s _
  unfold f_X8_can
  refine zv_aload_n hX dX8_can_0 0 rfl ?_
  refine zv_iconst (v := (0 : Int32)) hX dX8_can_1 zi_i_0 ?_
  refine zv_puti hX wf_X8_1 wc_8 wk_8_0 zd_76 zj_76_0 c9_8 zr_76_0 dX8_can_2 (fun s5 => ?_)
  refine zv_aload_n hX dX8_can_5 0 rfl ?_
  refine zv_iload_n hX dX8_can_6 1 rfl ?_
  refine zv_i2l hX dX8_can_7 ?_
  refine zv_cVI [.long (v1.toInt64)] (rest := []) hX hT.2.2.2.2 (c_X8_isPerson (zx_Y X) (v1.toInt64) s5) wv_X8_isPerson c9_8 zd_76 wm_X8_219 rfl (Nat.le_of_ble_eq_true rfl) (Nat.le_of_ble_eq_true rfl) rfl (Nat.le_of_ble_eq_true rfl) dX8_can_8 (fun r6 s7 => ?_)
  refine zv_if_ne (tgt := 17) hX dX8_can_11 rfl ?_ ?_
  · refine zv_aload_n hX dX8_can_17 0 rfl ?_
    refine zv_cVV [] (rest := []) hX hT.2.2.2.2 (c_X8_laysHeld (zx_Y X) s7) wv_X8_laysHeld c9_8 zd_76 wm_X8_403 rfl (Nat.le_of_ble_eq_true rfl) (Nat.le_of_ble_eq_true rfl) rfl (Nat.le_of_ble_eq_true rfl) dX8_can_18 (fun _ s8 => ?_)
    refine zv_iconst (v := (0 : Int32)) hX dX8_can_21 zi_i_0 ?_
    refine zv_istore_n (lv' := [(2, .int (0 : Int32)), (0, .ref (zx_ad X 76)), (1, .int v1)]) hX dX8_can_22 (by decide) rfl ?_
    refine zv_iconst (v := (0 : Int32)) hX dX8_can_23 zi_i_0 ?_
    refine zv_istore_n (lv' := [(3, .int (0 : Int32)), (2, .int (0 : Int32)), (0, .ref (zx_ad X 76)), (1, .int v1)]) hX dX8_can_24 (by decide) rfl ?_
    exact zv_sub [2, 3, 1, 0] rfl (b_X8_can_25 hX hT zFU v1 (0 : Int32) (0 : Int32) s8)
  · refine zv_bipush (v := (-2 : Int32)) hX dX8_can_14 zi_b_m2 ?_
    exact zv_ireti hX hT dX8_can_16
theorem dX8_likelyOut_0 : decode cX8_likelyOut 0 = .ok (.iconst 1, 1) := by decide +kernel
theorem dX8_likelyOut_1 : decode cX8_likelyOut 1 = .ok (.istore_n 2, 1) := by decide +kernel
theorem dX8_likelyOut_2 : decode cX8_likelyOut 2 = .ok (.iconst 0, 1) := by decide +kernel
theorem dX8_likelyOut_3 : decode cX8_likelyOut 3 = .ok (.istore_n 3, 1) := by decide +kernel
theorem dX8_likelyOut_4 : decode cX8_likelyOut 4 = .ok (.iload_n 3, 1) := by decide +kernel
theorem dX8_likelyOut_5 : decode cX8_likelyOut 5 = .ok (.aload_n 0, 1) := by decide +kernel
theorem dX8_likelyOut_6 : decode cX8_likelyOut 6 = .ok (.getfield 13, 3) := by decide +kernel
theorem dX8_likelyOut_9 : decode cX8_likelyOut 9 = .ok (.iconst 1, 1) := by decide +kernel
theorem dX8_likelyOut_10 : decode cX8_likelyOut 10 = .ok (.iaload, 1) := by decide +kernel
theorem dX8_likelyOut_11 : decode cX8_likelyOut 11 = .ok (.if_icmp .ge 45, 3) := by decide +kernel
theorem dX8_likelyOut_14 : decode cX8_likelyOut 14 = .ok (.iload_n 2, 1) := by decide +kernel
theorem dX8_likelyOut_15 : decode cX8_likelyOut 15 = .ok (.iload_n 1, 1) := by decide +kernel
theorem dX8_likelyOut_16 : decode cX8_likelyOut 16 = .ok (.i2l, 1) := by decide +kernel
theorem dX8_likelyOut_17 : decode cX8_likelyOut 17 = .ok (.iload_n 3, 1) := by decide +kernel
theorem dX8_likelyOut_18 : decode cX8_likelyOut 18 = .ok (.invokestatic 223, 3) := by decide +kernel
theorem dX8_likelyOut_21 : decode cX8_likelyOut 21 = .ok (.ifCond .eq 18, 3) := by decide +kernel
theorem dX8_likelyOut_24 : decode cX8_likelyOut 24 = .ok (.bipush 10, 2) := by decide +kernel
theorem dX8_likelyOut_26 : decode cX8_likelyOut 26 = .ok (.aload_n 0, 1) := by decide +kernel
theorem dX8_likelyOut_27 : decode cX8_likelyOut 27 = .ok (.getfield 13, 3) := by decide +kernel
theorem dX8_likelyOut_30 : decode cX8_likelyOut 30 = .ok (.bipush 8, 2) := by decide +kernel
theorem dX8_likelyOut_32 : decode cX8_likelyOut 32 = .ok (.iload_n 3, 1) := by decide +kernel
theorem dX8_likelyOut_33 : decode cX8_likelyOut 33 = .ok (.iadd, 1) := by decide +kernel
theorem dX8_likelyOut_34 : decode cX8_likelyOut 34 = .ok (.iaload, 1) := by decide +kernel
theorem dX8_likelyOut_35 : decode cX8_likelyOut 35 = .ok (.isub, 1) := by decide +kernel
theorem dX8_likelyOut_36 : decode cX8_likelyOut 36 = .ok (.goto 12, 3) := by decide +kernel
theorem dX8_likelyOut_39 : decode cX8_likelyOut 39 = .ok (.aload_n 0, 1) := by decide +kernel
theorem dX8_likelyOut_40 : decode cX8_likelyOut 40 = .ok (.getfield 13, 3) := by decide +kernel
theorem dX8_likelyOut_43 : decode cX8_likelyOut 43 = .ok (.bipush 8, 2) := by decide +kernel
theorem dX8_likelyOut_45 : decode cX8_likelyOut 45 = .ok (.iload_n 3, 1) := by decide +kernel
theorem dX8_likelyOut_46 : decode cX8_likelyOut 46 = .ok (.iadd, 1) := by decide +kernel
theorem dX8_likelyOut_47 : decode cX8_likelyOut 47 = .ok (.iaload, 1) := by decide +kernel
theorem dX8_likelyOut_48 : decode cX8_likelyOut 48 = .ok (.imul, 1) := by decide +kernel
theorem dX8_likelyOut_49 : decode cX8_likelyOut 49 = .ok (.istore_n 2, 1) := by decide +kernel
theorem dX8_likelyOut_50 : decode cX8_likelyOut 50 = .ok (.iinc 3 1, 3) := by decide +kernel
theorem dX8_likelyOut_53 : decode cX8_likelyOut 53 = .ok (.goto (-49), 3) := by decide +kernel
theorem dX8_likelyOut_56 : decode cX8_likelyOut 56 = .ok (.iload_n 2, 1) := by decide +kernel
theorem dX8_likelyOut_57 : decode cX8_likelyOut 57 = .ok (.ireturn, 1) := by decide +kernel
def f_X8_likelyOut_48 (kb_4 : Int32 → Int32 → Int32 → zS → Option (Int32 × zS)) (v1 : Int32) (v3 : Int32) (w0 : Int32) (w1 : Int32) (s : zS) : Option (Int32 × zS) :=
  zb (w1 * w0) fun x1 =>
  zb (v3 + (1 : Int32)) fun x2 =>
  kb_4 v1 x1 x2 s
set_option maxRecDepth 20000 in
theorem b_X8_likelyOut_48 {X : zX} {kb_4 : Int32 → Int32 → Int32 → zS → Option (Int32 × zS)} (hX : zx_ok X cX8_likelyOut RX8 4) (hT : zx_rt X (some .int) (zR 1 22)) (hk_4 : ∀ (v1 : Int32) (v2 : Int32) (v3 : Int32) (s : zS), zV X (zq X zrI) 4 4 [(0, .ref (zx_ad X 76)), (1, .int v1), (2, .int v2), (3, .int v3)] [] s (kb_4 v1 v2 v3 s)) : ∀ (v1 : Int32) (v3 : Int32) (w0 : Int32) (w1 : Int32) (s : zS), zV X (zq X zrI) 4 48 [(0, .ref (zx_ad X 76)), (1, .int v1), (3, .int v3)] [.int w0, .int w1] s (f_X8_likelyOut_48 kb_4 v1 v3 w0 w1 s) := by
  intro v1 v3 w0 w1 s
  unfold f_X8_likelyOut_48
  refine zv_imul hX dX8_likelyOut_48 ?_
  refine zv_istB_n (lw := fun x1 => [(2, .int x1), (0, .ref (zx_ad X 76)), (1, .int v1), (3, .int v3)]) hX dX8_likelyOut_49 (by decide) (fun _ => rfl) (fun x1 => ?_)
  refine zv_iincB (lw := fun x2 => [(3, .int x2), (2, .int x1), (0, .ref (zx_ad X 76)), (1, .int v1)]) hX dX8_likelyOut_50 3 rfl zi_i_1 (by decide) (fun _ => rfl) (fun x2 => ?_)
  refine zv_goto (tgt := 4) hX dX8_likelyOut_53 rfl ?_
  exact zv_sub [2, 3, 1, 0] rfl (hk_4 v1 x1 x2 s)
def f_X8_likelyOut_4 : Nat → Int32 → Int32 → Int32 → zS → Option (Int32 × zS)
  | 0, _, _, _, _ => none
  | n + 1, v1, v2, v3, s =>
    (zr_i s 77 (1 : Int32)).bind fun x3 =>
    if x3 ≤ v3 then
    (some (v2, s))
    else
    zbd (f_X8_isIn (v1.toInt64) v3 s) fun r4 s5 =>
    if r4 = 0 then
    ((zr_i s5 77 ((nI 8) + v3)).bind fun x6 =>
    f_X8_likelyOut_48 (f_X8_likelyOut_4 n) v1 v3 x6 v2 s5)
    else
    (zr_i s5 77 ((nI 8) + v3)).bind fun x7 =>
    f_X8_likelyOut_48 (f_X8_likelyOut_4 n) v1 v3 ((nI 10) - x7) v2 s5
set_option maxRecDepth 20000 in
theorem b_X8_likelyOut_4 {X : zX} (hX : zx_ok X cX8_likelyOut RX8 4) (hT : zx_rt X (some .int) (zR 1 22)) : ∀ (n : Nat) (v1 : Int32) (v2 : Int32) (v3 : Int32) (s : zS), zV X (zq X zrI) 4 4 [(0, .ref (zx_ad X 76)), (1, .int v1), (2, .int v2), (3, .int v3)] [] s (f_X8_likelyOut_4 n v1 v2 v3 s) := by
  intro n
  induction n with
  | zero => intro v1 v2 v3 s; exact zv_none
  | succ n ih =>
    intro v1 v2 v3 s
    rw [f_X8_likelyOut_4]
    refine zv_iload_n hX dX8_likelyOut_4 3 rfl ?_
    refine zv_aload_n hX dX8_likelyOut_5 0 rfl ?_
    refine zv_geta hX wf_X8_13 wc_8 zd_76 zj_76_1 c9_8 zr_76_1 (by decide) dX8_likelyOut_6 ?_
    refine zv_iconst (v := (1 : Int32)) hX dX8_likelyOut_9 zi_i_1 ?_
    refine zv_iald hX dX8_likelyOut_10 (fun x3 => ?_)
    refine zv_icmp_ge (tgt := 56) hX dX8_likelyOut_11 rfl ?_ ?_
    · refine zv_iload_n hX dX8_likelyOut_56 2 rfl ?_
      exact zv_ireti hX hT dX8_likelyOut_57
    · refine zv_iload_n hX dX8_likelyOut_14 2 rfl ?_
      refine zv_iload_n hX dX8_likelyOut_15 1 rfl ?_
      refine zv_i2l hX dX8_likelyOut_16 ?_
      refine zv_iload_n hX dX8_likelyOut_17 3 rfl ?_
      refine zv_cSI [.long (v1.toInt64), .int v3] (rest := [.int v2]) hX hT.2.2.2.2 (c_X8_isIn (zx_Y X) (v1.toInt64) v3 s) wv_X8_isIn wm_X8_223 rfl (Nat.le_of_ble_eq_true rfl) (Nat.le_of_ble_eq_true rfl) rfl (Nat.le_of_ble_eq_true rfl) dX8_likelyOut_18 (fun r4 s5 => ?_)
      refine zv_if_eq (tgt := 39) hX dX8_likelyOut_21 rfl ?_ ?_
      · refine zv_aload_n hX dX8_likelyOut_39 0 rfl ?_
        refine zv_geta hX wf_X8_13 wc_8 zd_76 zj_76_1 c9_8 zr_76_1 (by decide) dX8_likelyOut_40 ?_
        refine zv_bipush (v := (nI 8)) hX dX8_likelyOut_43 zi_b_8 ?_
        refine zv_iload_n hX dX8_likelyOut_45 3 rfl ?_
        refine zv_iadd hX dX8_likelyOut_46 ?_
        refine zv_iald hX dX8_likelyOut_47 (fun x6 => ?_)
        exact zv_sub [0, 1, 3] rfl (b_X8_likelyOut_48 hX hT ih v1 v3 x6 v2 s5)
      · refine zv_bipush (v := (nI 10)) hX dX8_likelyOut_24 zi_b_10 ?_
        refine zv_aload_n hX dX8_likelyOut_26 0 rfl ?_
        refine zv_geta hX wf_X8_13 wc_8 zd_76 zj_76_1 c9_8 zr_76_1 (by decide) dX8_likelyOut_27 ?_
        refine zv_bipush (v := (nI 8)) hX dX8_likelyOut_30 zi_b_8 ?_
        refine zv_iload_n hX dX8_likelyOut_32 3 rfl ?_
        refine zv_iadd hX dX8_likelyOut_33 ?_
        refine zv_iald hX dX8_likelyOut_34 (fun x7 => ?_)
        refine zv_isub hX dX8_likelyOut_35 ?_
        refine zv_goto (tgt := 48) hX dX8_likelyOut_36 rfl ?_
        exact zv_sub [0, 1, 3] rfl (b_X8_likelyOut_48 hX hT ih v1 v3 ((nI 10) - x7) v2 s5)
def f_X8_likelyOut (v1 : Int32) (s : zS) : Option (Int32 × zS) :=
  f_X8_likelyOut_4 zFU v1 (1 : Int32) (0 : Int32) s
set_option maxRecDepth 20000 in
theorem c_X8_likelyOut (Y : zG) (v1 : Int32) (s : zS) : zM Y yX8_likelyOut cX8_likelyOut 4 (some .int) (zR 1 22) [.ref (zy_a Y 76), .int v1] s zrI (f_X8_likelyOut v1 s) := by
  refine zm_start (by decide +kernel) (Nat.le_of_ble_eq_true rfl) ?_
  intro X hY hT hX
  subst hY
  have hX : zx_ok X cX8_likelyOut RX8 4 := hX
  show zV X (zq X zrI) 4 0 [(0, .ref (zx_ad X 76)), (1, .int v1)] [] s _
  unfold f_X8_likelyOut
  refine zv_iconst (v := (1 : Int32)) hX dX8_likelyOut_0 zi_i_1 ?_
  refine zv_istore_n (lv' := [(2, .int (1 : Int32)), (0, .ref (zx_ad X 76)), (1, .int v1)]) hX dX8_likelyOut_1 (by decide) rfl ?_
  refine zv_iconst (v := (0 : Int32)) hX dX8_likelyOut_2 zi_i_0 ?_
  refine zv_istore_n (lv' := [(3, .int (0 : Int32)), (2, .int (1 : Int32)), (0, .ref (zx_ad X 76)), (1, .int v1)]) hX dX8_likelyOut_3 (by decide) rfl ?_
  exact zv_sub [2, 3, 1, 0] rfl (b_X8_likelyOut_4 hX hT zFU v1 (1 : Int32) (0 : Int32) s)
