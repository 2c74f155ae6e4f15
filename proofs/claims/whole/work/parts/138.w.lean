theorem dX8_next_0 : decode cX8_next 0 = .ok (.aload_n 0, 1) := by decide +kernel
theorem dX8_next_1 : decode cX8_next 1 = .ok (.aload_n 0, 1) := by decide +kernel
theorem dX8_next_2 : decode cX8_next 2 = .ok (.getfield 113, 3) := by decide +kernel
theorem dX8_next_5 : decode cX8_next 5 = .ok (.putfield 110, 3) := by decide +kernel
theorem dX8_next_8 : decode cX8_next 8 = .ok (.aload_n 0, 1) := by decide +kernel
theorem dX8_next_9 : decode cX8_next 9 = .ok (.aload_n 0, 1) := by decide +kernel
theorem dX8_next_10 : decode cX8_next 10 = .ok (.getfield 110, 3) := by decide +kernel
theorem dX8_next_13 : decode cX8_next 13 = .ok (.invokevirtual 116, 3) := by decide +kernel
theorem dX8_next_16 : decode cX8_next 16 = .ok (.bipush 10, 2) := by decide +kernel
theorem dX8_next_18 : decode cX8_next 18 = .ok (.if_icmp .eq 16, 3) := by decide +kernel
theorem dX8_next_21 : decode cX8_next 21 = .ok (.aload_n 0, 1) := by decide +kernel
theorem dX8_next_22 : decode cX8_next 22 = .ok (.aload_n 0, 1) := by decide +kernel
theorem dX8_next_23 : decode cX8_next 23 = .ok (.getfield 110, 3) := by decide +kernel
theorem dX8_next_26 : decode cX8_next 26 = .ok (.invokevirtual 116, 3) := by decide +kernel
theorem dX8_next_29 : decode cX8_next 29 = .ok (.bipush 32, 2) := by decide +kernel
theorem dX8_next_31 : decode cX8_next 31 = .ok (.if_icmp .ne 16, 3) := by decide +kernel
theorem dX8_next_34 : decode cX8_next 34 = .ok (.aload_n 0, 1) := by decide +kernel
theorem dX8_next_35 : decode cX8_next 35 = .ok (.dup, 1) := by decide +kernel
theorem dX8_next_36 : decode cX8_next 36 = .ok (.getfield 110, 3) := by decide +kernel
theorem dX8_next_39 : decode cX8_next 39 = .ok (.iconst 1, 1) := by decide +kernel
theorem dX8_next_40 : decode cX8_next 40 = .ok (.iadd, 1) := by decide +kernel
theorem dX8_next_41 : decode cX8_next 41 = .ok (.putfield 110, 3) := by decide +kernel
theorem dX8_next_44 : decode cX8_next 44 = .ok (.goto (-36), 3) := by decide +kernel
theorem dX8_next_47 : decode cX8_next 47 = .ok (.aload_n 0, 1) := by decide +kernel
theorem dX8_next_48 : decode cX8_next 48 = .ok (.aload_n 0, 1) := by decide +kernel
theorem dX8_next_49 : decode cX8_next 49 = .ok (.getfield 110, 3) := by decide +kernel
theorem dX8_next_52 : decode cX8_next 52 = .ok (.putfield 113, 3) := by decide +kernel
theorem dX8_next_55 : decode cX8_next 55 = .ok (.aload_n 0, 1) := by decide +kernel
theorem dX8_next_56 : decode cX8_next 56 = .ok (.getfield 110, 3) := by decide +kernel
theorem dX8_next_59 : decode cX8_next 59 = .ok (.aload_n 0, 1) := by decide +kernel
theorem dX8_next_60 : decode cX8_next 60 = .ok (.getfield 95, 3) := by decide +kernel
theorem dX8_next_63 : decode cX8_next 63 = .ok (.if_icmp .lt 12, 3) := by decide +kernel
theorem dX8_next_66 : decode cX8_next 66 = .ok (.aload_n 0, 1) := by decide +kernel
theorem dX8_next_67 : decode cX8_next 67 = .ok (.bipush 24, 2) := by decide +kernel
theorem dX8_next_69 : decode cX8_next 69 = .ok (.putfield 120, 3) := by decide +kernel
theorem dX8_next_72 : decode cX8_next 72 = .ok (.goto 222, 3) := by decide +kernel
theorem dX8_next_75 : decode cX8_next 75 = .ok (.aload_n 0, 1) := by decide +kernel
theorem dX8_next_76 : decode cX8_next 76 = .ok (.aload_n 0, 1) := by decide +kernel
theorem dX8_next_77 : decode cX8_next 77 = .ok (.getfield 110, 3) := by decide +kernel
theorem dX8_next_80 : decode cX8_next 80 = .ok (.invokevirtual 116, 3) := by decide +kernel
theorem dX8_next_83 : decode cX8_next 83 = .ok (.invokestatic 123, 3) := by decide +kernel
theorem dX8_next_86 : decode cX8_next 86 = .ok (.ifCond .eq 41, 3) := by decide +kernel
theorem dX8_next_89 : decode cX8_next 89 = .ok (.aload_n 0, 1) := by decide +kernel
theorem dX8_next_90 : decode cX8_next 90 = .ok (.aload_n 0, 1) := by decide +kernel
theorem dX8_next_91 : decode cX8_next 91 = .ok (.getfield 113, 3) := by decide +kernel
theorem dX8_next_94 : decode cX8_next 94 = .ok (.invokevirtual 116, 3) := by decide +kernel
theorem dX8_next_97 : decode cX8_next 97 = .ok (.invokestatic 123, 3) := by decide +kernel
theorem dX8_next_100 : decode cX8_next 100 = .ok (.ifCond .eq 16, 3) := by decide +kernel
theorem dX8_next_103 : decode cX8_next 103 = .ok (.aload_n 0, 1) := by decide +kernel
theorem dX8_next_104 : decode cX8_next 104 = .ok (.dup, 1) := by decide +kernel
theorem dX8_next_105 : decode cX8_next 105 = .ok (.getfield 113, 3) := by decide +kernel
theorem dX8_next_108 : decode cX8_next 108 = .ok (.iconst 1, 1) := by decide +kernel
theorem dX8_next_109 : decode cX8_next 109 = .ok (.iadd, 1) := by decide +kernel
theorem dX8_next_110 : decode cX8_next 110 = .ok (.putfield 113, 3) := by decide +kernel
theorem dX8_next_113 : decode cX8_next 113 = .ok (.goto (-24), 3) := by decide +kernel
theorem dX8_next_116 : decode cX8_next 116 = .ok (.aload_n 0, 1) := by decide +kernel
theorem dX8_next_117 : decode cX8_next 117 = .ok (.aload_n 0, 1) := by decide +kernel
theorem dX8_next_118 : decode cX8_next 118 = .ok (.invokevirtual 127, 3) := by decide +kernel
theorem dX8_next_121 : decode cX8_next 121 = .ok (.putfield 120, 3) := by decide +kernel
theorem dX8_next_124 : decode cX8_next 124 = .ok (.goto 170, 3) := by decide +kernel
theorem dX8_next_127 : decode cX8_next 127 = .ok (.aload_n 0, 1) := by decide +kernel
theorem dX8_next_128 : decode cX8_next 128 = .ok (.aload_n 0, 1) := by decide +kernel
theorem dX8_next_129 : decode cX8_next 129 = .ok (.getfield 110, 3) := by decide +kernel
theorem dX8_next_132 : decode cX8_next 132 = .ok (.invokevirtual 116, 3) := by decide +kernel
theorem dX8_next_135 : decode cX8_next 135 = .ok (.invokestatic 130, 3) := by decide +kernel
theorem dX8_next_138 : decode cX8_next 138 = .ok (.ifCond .eq 98, 3) := by decide +kernel
theorem dX8_next_141 : decode cX8_next 141 = .ok (.aload_n 0, 1) := by decide +kernel
theorem dX8_next_142 : decode cX8_next 142 = .ok (.iconst 0, 1) := by decide +kernel
theorem dX8_next_143 : decode cX8_next 143 = .ok (.putfield 133, 3) := by decide +kernel
theorem dX8_next_146 : decode cX8_next 146 = .ok (.aload_n 0, 1) := by decide +kernel
theorem dX8_next_147 : decode cX8_next 147 = .ok (.aload_n 0, 1) := by decide +kernel
theorem dX8_next_148 : decode cX8_next 148 = .ok (.getfield 113, 3) := by decide +kernel
theorem dX8_next_151 : decode cX8_next 151 = .ok (.invokevirtual 116, 3) := by decide +kernel
theorem dX8_next_154 : decode cX8_next 154 = .ok (.invokestatic 130, 3) := by decide +kernel
theorem dX8_next_157 : decode cX8_next 157 = .ok (.ifCond .eq 52, 3) := by decide +kernel
theorem dX8_next_160 : decode cX8_next 160 = .ok (.aload_n 0, 1) := by decide +kernel
theorem dX8_next_161 : decode cX8_next 161 = .ok (.getfield 113, 3) := by decide +kernel
theorem dX8_next_164 : decode cX8_next 164 = .ok (.aload_n 0, 1) := by decide +kernel
theorem dX8_next_165 : decode cX8_next 165 = .ok (.getfield 110, 3) := by decide +kernel
theorem dX8_next_168 : decode cX8_next 168 = .ok (.isub, 1) := by decide +kernel
theorem dX8_next_169 : decode cX8_next 169 = .ok (.iconst 3, 1) := by decide +kernel
theorem dX8_next_170 : decode cX8_next 170 = .ok (.if_icmp .ge 26, 3) := by decide +kernel
theorem dX8_next_173 : decode cX8_next 173 = .ok (.aload_n 0, 1) := by decide +kernel
theorem dX8_next_174 : decode cX8_next 174 = .ok (.bipush 10, 2) := by decide +kernel
theorem dX8_next_176 : decode cX8_next 176 = .ok (.aload_n 0, 1) := by decide +kernel
theorem dX8_next_177 : decode cX8_next 177 = .ok (.getfield 133, 3) := by decide +kernel
theorem dX8_next_180 : decode cX8_next 180 = .ok (.imul, 1) := by decide +kernel
theorem dX8_next_181 : decode cX8_next 181 = .ok (.aload_n 0, 1) := by decide +kernel
theorem dX8_next_182 : decode cX8_next 182 = .ok (.aload_n 0, 1) := by decide +kernel
theorem dX8_next_183 : decode cX8_next 183 = .ok (.getfield 113, 3) := by decide +kernel
theorem dX8_next_186 : decode cX8_next 186 = .ok (.invokevirtual 116, 3) := by decide +kernel
theorem dX8_next_189 : decode cX8_next 189 = .ok (.iadd, 1) := by decide +kernel
theorem dX8_next_190 : decode cX8_next 190 = .ok (.bipush 48, 2) := by decide +kernel
theorem dX8_next_192 : decode cX8_next 192 = .ok (.isub, 1) := by decide +kernel
theorem dX8_next_193 : decode cX8_next 193 = .ok (.putfield 133, 3) := by decide +kernel
theorem dX8_next_196 : decode cX8_next 196 = .ok (.aload_n 0, 1) := by decide +kernel
theorem dX8_next_197 : decode cX8_next 197 = .ok (.dup, 1) := by decide +kernel
theorem dX8_next_198 : decode cX8_next 198 = .ok (.getfield 113, 3) := by decide +kernel
theorem dX8_next_201 : decode cX8_next 201 = .ok (.iconst 1, 1) := by decide +kernel
theorem dX8_next_202 : decode cX8_next 202 = .ok (.iadd, 1) := by decide +kernel
theorem dX8_next_203 : decode cX8_next 203 = .ok (.putfield 113, 3) := by decide +kernel
theorem dX8_next_206 : decode cX8_next 206 = .ok (.goto (-60), 3) := by decide +kernel
theorem dX8_next_209 : decode cX8_next 209 = .ok (.aload_n 0, 1) := by decide +kernel
theorem dX8_next_210 : decode cX8_next 210 = .ok (.aload_n 0, 1) := by decide +kernel
theorem dX8_next_211 : decode cX8_next 211 = .ok (.getfield 113, 3) := by decide +kernel
theorem dX8_next_214 : decode cX8_next 214 = .ok (.aload_n 0, 1) := by decide +kernel
theorem dX8_next_215 : decode cX8_next 215 = .ok (.getfield 110, 3) := by decide +kernel
theorem dX8_next_218 : decode cX8_next 218 = .ok (.isub, 1) := by decide +kernel
theorem dX8_next_219 : decode cX8_next 219 = .ok (.iconst 3, 1) := by decide +kernel
theorem dX8_next_220 : decode cX8_next 220 = .ok (.if_icmp .le 8, 3) := by decide +kernel
theorem dX8_next_223 : decode cX8_next 223 = .ok (.bipush 25, 2) := by decide +kernel
theorem dX8_next_225 : decode cX8_next 225 = .ok (.goto 5, 3) := by decide +kernel
theorem dX8_next_228 : decode cX8_next 228 = .ok (.bipush 23, 2) := by decide +kernel
theorem dX8_next_230 : decode cX8_next 230 = .ok (.putfield 120, 3) := by decide +kernel
theorem dX8_next_233 : decode cX8_next 233 = .ok (.goto 61, 3) := by decide +kernel
theorem dX8_next_236 : decode cX8_next 236 = .ok (.aload_n 0, 1) := by decide +kernel
theorem dX8_next_237 : decode cX8_next 237 = .ok (.dup, 1) := by decide +kernel
theorem dX8_next_238 : decode cX8_next 238 = .ok (.getfield 113, 3) := by decide +kernel
theorem dX8_next_241 : decode cX8_next 241 = .ok (.iconst 1, 1) := by decide +kernel
theorem dX8_next_242 : decode cX8_next 242 = .ok (.iadd, 1) := by decide +kernel
theorem dX8_next_243 : decode cX8_next 243 = .ok (.putfield 113, 3) := by decide +kernel
theorem dX8_next_246 : decode cX8_next 246 = .ok (.aload_n 0, 1) := by decide +kernel
theorem dX8_next_247 : decode cX8_next 247 = .ok (.bipush 25, 2) := by decide +kernel
theorem dX8_next_249 : decode cX8_next 249 = .ok (.putfield 120, 3) := by decide +kernel
theorem dX8_next_252 : decode cX8_next 252 = .ok (.iconst 0, 1) := by decide +kernel
theorem dX8_next_253 : decode cX8_next 253 = .ok (.istore_n 1, 1) := by decide +kernel
theorem dX8_next_254 : decode cX8_next 254 = .ok (.iload_n 1, 1) := by decide +kernel
theorem dX8_next_255 : decode cX8_next 255 = .ok (.ldc 136, 2) := by decide +kernel
theorem dX8_next_257 : decode cX8_next 257 = .ok (.invokevirtual 100, 3) := by decide +kernel
theorem dX8_next_260 : decode cX8_next 260 = .ok (.if_icmp .ge 34, 3) := by decide +kernel
theorem dX8_next_263 : decode cX8_next 263 = .ok (.aload_n 0, 1) := by decide +kernel
theorem dX8_next_264 : decode cX8_next 264 = .ok (.aload_n 0, 1) := by decide +kernel
theorem dX8_next_265 : decode cX8_next 265 = .ok (.getfield 110, 3) := by decide +kernel
theorem dX8_next_268 : decode cX8_next 268 = .ok (.invokevirtual 116, 3) := by decide +kernel
theorem dX8_next_271 : decode cX8_next 271 = .ok (.ldc 136, 2) := by decide +kernel
theorem dX8_next_273 : decode cX8_next 273 = .ok (.iload_n 1, 1) := by decide +kernel
theorem dX8_next_274 : decode cX8_next 274 = .ok (.invokevirtual 106, 3) := by decide +kernel
theorem dX8_next_277 : decode cX8_next 277 = .ok (.if_icmp .ne 11, 3) := by decide +kernel
theorem dX8_next_280 : decode cX8_next 280 = .ok (.aload_n 0, 1) := by decide +kernel
theorem dX8_next_281 : decode cX8_next 281 = .ok (.bipush 30, 2) := by decide +kernel
theorem dX8_next_283 : decode cX8_next 283 = .ok (.iload_n 1, 1) := by decide +kernel
theorem dX8_next_284 : decode cX8_next 284 = .ok (.iadd, 1) := by decide +kernel
theorem dX8_next_285 : decode cX8_next 285 = .ok (.putfield 120, 3) := by decide +kernel
theorem dX8_next_288 : decode cX8_next 288 = .ok (.iinc 1 1, 3) := by decide +kernel
theorem dX8_next_291 : decode cX8_next 291 = .ok (.goto (-37), 3) := by decide +kernel
theorem dX8_next_294 : decode cX8_next 294 = .ok (.return_, 1) := by decide +kernel
def f_X8_next_34 (kb_8 : zS → Option (Unit × zS))  (s : zS) : Option (Unit × zS) :=
  zb (zs_i s 76 6 ((s.1 76 6) + (1 : Int32))) fun s1 =>
  kb_8 s1
set_option maxRecDepth 20000 in
theorem b_X8_next_34 {X : zX} {kb_8 : zS → Option (Unit × zS)} (hX : zx_ok X cX8_next RX8 2) (hT : zx_rt X none (zR 5 108)) (hk_8 : ∀  (s : zS), zV X (zq X zrV) 2 8 [(0, .ref (zx_ad X 76))] [] s (kb_8  s)) : ∀  (s : zS), zV X (zq X zrV) 2 34 [(0, .ref (zx_ad X 76))] [] s (f_X8_next_34 kb_8  s) := by
  intro  s
  unfold f_X8_next_34
  refine zv_aload_n hX dX8_next_34 0 rfl ?_
  refine zv_dup hX dX8_next_35 rfl ?_
  refine zv_geti hX wf_X8_110 wc_8 zd_76 zj_76_6 c9_8 zr_76_6 dX8_next_36 ?_
  refine zv_iconst (v := (1 : Int32)) hX dX8_next_39 zi_i_1 ?_
  refine zv_iadd hX dX8_next_40 ?_
  refine zv_puti hX wf_X8_110 wc_8 wk_8_6 zd_76 zj_76_6 c9_8 zr_76_6 dX8_next_41 (fun s1 => ?_)
  refine zv_goto (tgt := 8) hX dX8_next_44 rfl ?_
  exact hk_8 s1
def f_X8_next_294  (s : zS) : Option (Unit × zS) :=
  some ((), s)
set_option maxRecDepth 20000 in
theorem b_X8_next_294 {X : zX} (hX : zx_ok X cX8_next RX8 2) (hT : zx_rt X none (zR 5 108)) : ∀  (s : zS), zV X (zq X zrV) 2 294 [] [] s (f_X8_next_294  s) := by
  intro  s
  unfold f_X8_next_294
  exact zv_vret hX hT dX8_next_294
def f_X8_next_288 (kb_254 : Int32 → zS → Option (Unit × zS)) (v1 : Int32) (s : zS) : Option (Unit × zS) :=
  zb (v1 + (1 : Int32)) fun x2 =>
  kb_254 x2 s
set_option maxRecDepth 20000 in
theorem b_X8_next_288 {X : zX} {kb_254 : Int32 → zS → Option (Unit × zS)} (hX : zx_ok X cX8_next RX8 2) (hT : zx_rt X none (zR 5 108)) (hk_254 : ∀ (v1 : Int32) (s : zS), zV X (zq X zrV) 2 254 [(0, .ref (zx_ad X 76)), (1, .int v1)] [] s (kb_254 v1 s)) : ∀ (v1 : Int32) (s : zS), zV X (zq X zrV) 2 288 [(0, .ref (zx_ad X 76)), (1, .int v1)] [] s (f_X8_next_288 kb_254 v1 s) := by
  intro v1 s
  unfold f_X8_next_288
  refine zv_iincB (lw := fun x2 => [(1, .int x2), (0, .ref (zx_ad X 76))]) hX dX8_next_288 1 rfl zi_i_1 (by decide) (fun _ => rfl) (fun x2 => ?_)
  refine zv_goto (tgt := 254) hX dX8_next_291 rfl ?_
  exact zv_sub [1, 0] rfl (hk_254 x2 s)
def f_X8_next_254 : Nat → Int32 → zS → Option (Unit × zS)
  | 0, _, _ => none
  | n + 1, v1, s =>
    zbd (f_J0_length_8abf5 1 s) fun r3 s4 =>
    if r3 ≤ v1 then
    (f_X8_next_294 s4)
    else
    zbd (f_X8_see (s4.1 76 6) s4) fun r5 s6 =>
    zbd (f_J0_charAt_5068e 1 v1 s6) fun r7 s8 =>
    if ¬ r5 = r7 then
    (f_X8_next_288 (f_X8_next_254 n) v1 s8)
    else
    zb (zs_i s8 76 9 ((nI 30) + v1)) fun s9 =>
    f_X8_next_288 (f_X8_next_254 n) v1 s9
set_option maxRecDepth 20000 in
theorem b_X8_next_254 {X : zX} (hX : zx_ok X cX8_next RX8 2) (hT : zx_rt X none (zR 5 108)) : ∀ (n : Nat) (v1 : Int32) (s : zS), zV X (zq X zrV) 2 254 [(0, .ref (zx_ad X 76)), (1, .int v1)] [] s (f_X8_next_254 n v1 s) := by
  intro n
  induction n with
  | zero => intro v1 s; exact zv_none
  | succ n ih =>
    intro v1 s
    rw [f_X8_next_254]
    refine zv_iload_n hX dX8_next_254 1 rfl ?_
    refine zv_ldcG hX dX8_next_255 ?_
    refine zv_cTI [] (i := 1) (rest := [.int v1]) hX hT.2.2.2.2 (by decide) (c_J0_length_8abf5 (zx_Y X) 1 s) wb_J0_length_8abf5 wi_J0_length_8abf5 wq_J0_length_8abf5 rfl wm_X8_100 rfl (Nat.le_of_ble_eq_true rfl) (Nat.le_of_ble_eq_true rfl) rfl (Nat.le_of_ble_eq_true rfl) dX8_next_257 (fun r3 s4 => ?_)
    refine zv_icmp_ge (tgt := 294) hX dX8_next_260 rfl ?_ ?_
    · exact zv_sub [] rfl (b_X8_next_294 hX hT  s4)
    · refine zv_aload_n hX dX8_next_263 0 rfl ?_
      refine zv_aload_n hX dX8_next_264 0 rfl ?_
      refine zv_geti hX wf_X8_110 wc_8 zd_76 zj_76_6 c9_8 zr_76_6 dX8_next_265 ?_
      refine zv_cVI [.int (s4.1 76 6)] (rest := []) hX hT.2.2.2.2 (c_X8_see (zx_Y X) (s4.1 76 6) s4) wv_X8_see c9_8 zd_76 wm_X8_116 rfl (Nat.le_of_ble_eq_true rfl) (Nat.le_of_ble_eq_true rfl) rfl (Nat.le_of_ble_eq_true rfl) dX8_next_268 (fun r5 s6 => ?_)
      refine zv_ldcG hX dX8_next_271 ?_
      refine zv_iload_n hX dX8_next_273 1 rfl ?_
      refine zv_cTI [.int v1] (i := 1) (rest := [.int r5]) hX hT.2.2.2.2 (by decide) (c_J0_charAt_5068e (zx_Y X) 1 v1 s6) wb_J0_charAt_5068e wi_J0_charAt_5068e wq_J0_charAt_5068e rfl wm_X8_106 rfl (Nat.le_of_ble_eq_true rfl) (Nat.le_of_ble_eq_true rfl) rfl (Nat.le_of_ble_eq_true rfl) dX8_next_274 (fun r7 s8 => ?_)
      refine zv_icmp_ne (tgt := 288) hX dX8_next_277 rfl ?_ ?_
      · exact b_X8_next_288 hX hT ih v1 s8
      · refine zv_aload_n hX dX8_next_280 0 rfl ?_
        refine zv_bipush (v := (nI 30)) hX dX8_next_281 zi_b_30 ?_
        refine zv_iload_n hX dX8_next_283 1 rfl ?_
        refine zv_iadd hX dX8_next_284 ?_
        refine zv_puti hX wf_X8_120 wc_8 wk_8_9 zd_76 zj_76_9 c9_8 zr_76_9 dX8_next_285 (fun s9 => ?_)
        exact b_X8_next_288 hX hT ih v1 s9
def f_X8_next_230 (w0 : Int32) (s : zS) : Option (Unit × zS) :=
  zb (zs_i s 76 9 w0) fun s10 =>
  f_X8_next_294 s10
set_option maxRecDepth 20000 in
theorem b_X8_next_230 {X : zX} (hX : zx_ok X cX8_next RX8 2) (hT : zx_rt X none (zR 5 108)) : ∀ (w0 : Int32) (s : zS), zV X (zq X zrV) 2 230 [] [.int w0, .ref (zx_ad X 76)] s (f_X8_next_230 w0 s) := by
  intro w0 s
  unfold f_X8_next_230
  refine zv_puti hX wf_X8_120 wc_8 wk_8_9 zd_76 zj_76_9 c9_8 zr_76_9 dX8_next_230 (fun s10 => ?_)
  refine zv_goto (tgt := 294) hX dX8_next_233 rfl ?_
  exact b_X8_next_294 hX hT  s10
def f_X8_next_196 (kb_146 : zS → Option (Unit × zS))  (s : zS) : Option (Unit × zS) :=
  zb (zs_i s 76 7 ((s.1 76 7) + (1 : Int32))) fun s11 =>
  kb_146 s11
set_option maxRecDepth 20000 in
theorem b_X8_next_196 {X : zX} {kb_146 : zS → Option (Unit × zS)} (hX : zx_ok X cX8_next RX8 2) (hT : zx_rt X none (zR 5 108)) (hk_146 : ∀  (s : zS), zV X (zq X zrV) 2 146 [(0, .ref (zx_ad X 76))] [] s (kb_146  s)) : ∀  (s : zS), zV X (zq X zrV) 2 196 [(0, .ref (zx_ad X 76))] [] s (f_X8_next_196 kb_146  s) := by
  intro  s
  unfold f_X8_next_196
  refine zv_aload_n hX dX8_next_196 0 rfl ?_
  refine zv_dup hX dX8_next_197 rfl ?_
  refine zv_geti hX wf_X8_113 wc_8 zd_76 zj_76_7 c9_8 zr_76_7 dX8_next_198 ?_
  refine zv_iconst (v := (1 : Int32)) hX dX8_next_201 zi_i_1 ?_
  refine zv_iadd hX dX8_next_202 ?_
  refine zv_puti hX wf_X8_113 wc_8 wk_8_7 zd_76 zj_76_7 c9_8 zr_76_7 dX8_next_203 (fun s11 => ?_)
  refine zv_goto (tgt := 146) hX dX8_next_206 rfl ?_
  exact hk_146 s11
def f_X8_next_146 : Nat → zS → Option (Unit × zS)
  | 0, _ => none
  | n + 1, s =>
    zbd (f_X8_see (s.1 76 7) s) fun r12 s13 =>
    zbd (f_X8_isDigit r12 s13) fun r14 s15 =>
    if r14 = 0 then
    (if ((s15.1 76 7) - (s15.1 76 6)) ≤ (nI 3) then
    (f_X8_next_230 (nI 23) s15)
    else
    f_X8_next_230 (nI 25) s15)
    else
    if (nI 3) ≤ ((s15.1 76 7) - (s15.1 76 6)) then
    (f_X8_next_196 (f_X8_next_146 n) s15)
    else
    zbd (f_X8_see (s15.1 76 7) s15) fun r16 s17 =>
    zb (zs_i s17 76 10 ((((nI 10) * (s15.1 76 10)) + r16) - (nI 48))) fun s18 =>
    f_X8_next_196 (f_X8_next_146 n) s18
set_option maxRecDepth 20000 in
theorem b_X8_next_146 {X : zX} (hX : zx_ok X cX8_next RX8 2) (hT : zx_rt X none (zR 5 108)) : ∀ (n : Nat)  (s : zS), zV X (zq X zrV) 2 146 [(0, .ref (zx_ad X 76))] [] s (f_X8_next_146 n  s) := by
  intro n
  induction n with
  | zero => intro  s; exact zv_none
  | succ n ih =>
    intro  s
    rw [f_X8_next_146]
    refine zv_aload_n hX dX8_next_146 0 rfl ?_
    refine zv_aload_n hX dX8_next_147 0 rfl ?_
    refine zv_geti hX wf_X8_113 wc_8 zd_76 zj_76_7 c9_8 zr_76_7 dX8_next_148 ?_
    refine zv_cVI [.int (s.1 76 7)] (rest := []) hX hT.2.2.2.2 (c_X8_see (zx_Y X) (s.1 76 7) s) wv_X8_see c9_8 zd_76 wm_X8_116 rfl (Nat.le_of_ble_eq_true rfl) (Nat.le_of_ble_eq_true rfl) rfl (Nat.le_of_ble_eq_true rfl) dX8_next_151 (fun r12 s13 => ?_)
    refine zv_cSI [.int r12] (rest := []) hX hT.2.2.2.2 (c_X8_isDigit (zx_Y X) r12 s13) wv_X8_isDigit wm_X8_130 rfl (Nat.le_of_ble_eq_true rfl) (Nat.le_of_ble_eq_true rfl) rfl (Nat.le_of_ble_eq_true rfl) dX8_next_154 (fun r14 s15 => ?_)
    refine zv_if_eq (tgt := 209) hX dX8_next_157 rfl ?_ ?_
    · refine zv_aload_n hX dX8_next_209 0 rfl ?_
      refine zv_aload_n hX dX8_next_210 0 rfl ?_
      refine zv_geti hX wf_X8_113 wc_8 zd_76 zj_76_7 c9_8 zr_76_7 dX8_next_211 ?_
      refine zv_aload_n hX dX8_next_214 0 rfl ?_
      refine zv_geti hX wf_X8_110 wc_8 zd_76 zj_76_6 c9_8 zr_76_6 dX8_next_215 ?_
      refine zv_isub hX dX8_next_218 ?_
      refine zv_iconst (v := (nI 3)) hX dX8_next_219 zi_i_3 ?_
      refine zv_icmp_le (tgt := 228) hX dX8_next_220 rfl ?_ ?_
      · refine zv_bipush (v := (nI 23)) hX dX8_next_228 zi_b_23 ?_
        exact zv_sub [] rfl (b_X8_next_230 hX hT (nI 23) s15)
      · refine zv_bipush (v := (nI 25)) hX dX8_next_223 zi_b_25 ?_
        refine zv_goto (tgt := 230) hX dX8_next_225 rfl ?_
        exact zv_sub [] rfl (b_X8_next_230 hX hT (nI 25) s15)
    · refine zv_aload_n hX dX8_next_160 0 rfl ?_
      refine zv_geti hX wf_X8_113 wc_8 zd_76 zj_76_7 c9_8 zr_76_7 dX8_next_161 ?_
      refine zv_aload_n hX dX8_next_164 0 rfl ?_
      refine zv_geti hX wf_X8_110 wc_8 zd_76 zj_76_6 c9_8 zr_76_6 dX8_next_165 ?_
      refine zv_isub hX dX8_next_168 ?_
      refine zv_iconst (v := (nI 3)) hX dX8_next_169 zi_i_3 ?_
      refine zv_icmp_ge (tgt := 196) hX dX8_next_170 rfl ?_ ?_
      · exact b_X8_next_196 hX hT ih  s15
      · refine zv_aload_n hX dX8_next_173 0 rfl ?_
        refine zv_bipush (v := (nI 10)) hX dX8_next_174 zi_b_10 ?_
        refine zv_aload_n hX dX8_next_176 0 rfl ?_
        refine zv_geti hX wf_X8_133 wc_8 zd_76 zj_76_10 c9_8 zr_76_10 dX8_next_177 ?_
        refine zv_imul hX dX8_next_180 ?_
        refine zv_aload_n hX dX8_next_181 0 rfl ?_
        refine zv_aload_n hX dX8_next_182 0 rfl ?_
        refine zv_geti hX wf_X8_113 wc_8 zd_76 zj_76_7 c9_8 zr_76_7 dX8_next_183 ?_
        refine zv_cVI [.int (s15.1 76 7)] (rest := [.int ((nI 10) * (s15.1 76 10)), .ref (zx_ad X 76)]) hX hT.2.2.2.2 (c_X8_see (zx_Y X) (s15.1 76 7) s15) wv_X8_see c9_8 zd_76 wm_X8_116 rfl (Nat.le_of_ble_eq_true rfl) (Nat.le_of_ble_eq_true rfl) rfl (Nat.le_of_ble_eq_true rfl) dX8_next_186 (fun r16 s17 => ?_)
        refine zv_iadd hX dX8_next_189 ?_
        refine zv_bipush (v := (nI 48)) hX dX8_next_190 zi_b_48 ?_
        refine zv_isub hX dX8_next_192 ?_
        refine zv_puti hX wf_X8_133 wc_8 wk_8_10 zd_76 zj_76_10 c9_8 zr_76_10 dX8_next_193 (fun s18 => ?_)
        exact b_X8_next_196 hX hT ih  s18
def f_X8_next_89 : Nat → zS → Option (Unit × zS)
  | 0, _ => none
  | n + 1, s =>
    zbd (f_X8_see (s.1 76 7) s) fun r19 s20 =>
    zbd (f_X8_isSmall r19 s20) fun r21 s22 =>
    if r21 = 0 then
    (zbd (f_X8_keyAt s22) fun r23 s24 =>
    zb (zs_i s24 76 9 r23) fun s25 =>
    f_X8_next_294 s25)
    else
    zb (zs_i s22 76 7 ((s22.1 76 7) + (1 : Int32))) fun s26 =>
    f_X8_next_89 n s26
set_option maxRecDepth 20000 in
theorem b_X8_next_89 {X : zX} (hX : zx_ok X cX8_next RX8 2) (hT : zx_rt X none (zR 5 108)) : ∀ (n : Nat)  (s : zS), zV X (zq X zrV) 2 89 [(0, .ref (zx_ad X 76))] [] s (f_X8_next_89 n  s) := by
  intro n
  induction n with
  | zero => intro  s; exact zv_none
  | succ n ih =>
    intro  s
    rw [f_X8_next_89]
    refine zv_aload_n hX dX8_next_89 0 rfl ?_
    refine zv_aload_n hX dX8_next_90 0 rfl ?_
    refine zv_geti hX wf_X8_113 wc_8 zd_76 zj_76_7 c9_8 zr_76_7 dX8_next_91 ?_
    refine zv_cVI [.int (s.1 76 7)] (rest := []) hX hT.2.2.2.2 (c_X8_see (zx_Y X) (s.1 76 7) s) wv_X8_see c9_8 zd_76 wm_X8_116 rfl (Nat.le_of_ble_eq_true rfl) (Nat.le_of_ble_eq_true rfl) rfl (Nat.le_of_ble_eq_true rfl) dX8_next_94 (fun r19 s20 => ?_)
    refine zv_cSI [.int r19] (rest := []) hX hT.2.2.2.2 (c_X8_isSmall (zx_Y X) r19 s20) wv_X8_isSmall wm_X8_123 rfl (Nat.le_of_ble_eq_true rfl) (Nat.le_of_ble_eq_true rfl) rfl (Nat.le_of_ble_eq_true rfl) dX8_next_97 (fun r21 s22 => ?_)
    refine zv_if_eq (tgt := 116) hX dX8_next_100 rfl ?_ ?_
    · refine zv_aload_n hX dX8_next_116 0 rfl ?_
      refine zv_aload_n hX dX8_next_117 0 rfl ?_
      refine zv_cVI [] (rest := [.ref (zx_ad X 76)]) hX hT.2.2.2.2 (c_X8_keyAt (zx_Y X) s22) wv_X8_keyAt c9_8 zd_76 wm_X8_127 rfl (Nat.le_of_ble_eq_true rfl) (Nat.le_of_ble_eq_true rfl) rfl (Nat.le_of_ble_eq_true rfl) dX8_next_118 (fun r23 s24 => ?_)
      refine zv_puti hX wf_X8_120 wc_8 wk_8_9 zd_76 zj_76_9 c9_8 zr_76_9 dX8_next_121 (fun s25 => ?_)
      refine zv_goto (tgt := 294) hX dX8_next_124 rfl ?_
      exact zv_sub [] rfl (b_X8_next_294 hX hT  s25)
    · refine zv_aload_n hX dX8_next_103 0 rfl ?_
      refine zv_dup hX dX8_next_104 rfl ?_
      refine zv_geti hX wf_X8_113 wc_8 zd_76 zj_76_7 c9_8 zr_76_7 dX8_next_105 ?_
      refine zv_iconst (v := (1 : Int32)) hX dX8_next_108 zi_i_1 ?_
      refine zv_iadd hX dX8_next_109 ?_
      refine zv_puti hX wf_X8_113 wc_8 wk_8_7 zd_76 zj_76_7 c9_8 zr_76_7 dX8_next_110 (fun s26 => ?_)
      refine zv_goto (tgt := 89) hX dX8_next_113 rfl ?_
      exact ih s26
def f_X8_next_8 : Nat → zS → Option (Unit × zS)
  | 0, _ => none
  | n + 1, s =>
    zbd (f_X8_see (s.1 76 6) s) fun r27 s28 =>
    if r27 = (nI 10) then
    (f_X8_next_34 (f_X8_next_8 n) s28)
    else
    zbd (f_X8_see (s28.1 76 6) s28) fun r29 s30 =>
    if ¬ r29 = (nI 32) then
    (zb (zs_i s30 76 7 (s30.1 76 6)) fun s31 =>
    if (s31.1 76 6) < (s31.1 76 8) then
    (zbd (f_X8_see (s31.1 76 6) s31) fun r32 s33 =>
    zbd (f_X8_isSmall r32 s33) fun r34 s35 =>
    if r34 = 0 then
    (zbd (f_X8_see (s35.1 76 6) s35) fun r36 s37 =>
    zbd (f_X8_isDigit r36 s37) fun r38 s39 =>
    if r38 = 0 then
    (zb (zs_i s39 76 7 ((s39.1 76 7) + (1 : Int32))) fun s40 =>
    zb (zs_i s40 76 9 (nI 25)) fun s41 =>
    f_X8_next_254 zFU (0 : Int32) s41)
    else
    zb (zs_i s39 76 10 (0 : Int32)) fun s42 =>
    f_X8_next_146 zFU s42)
    else
    f_X8_next_89 zFU s35)
    else
    zb (zs_i s31 76 9 (nI 24)) fun s43 =>
    f_X8_next_294 s43)
    else
    f_X8_next_34 (f_X8_next_8 n) s30
set_option maxRecDepth 20000 in
theorem b_X8_next_8 {X : zX} (hX : zx_ok X cX8_next RX8 2) (hT : zx_rt X none (zR 5 108)) : ∀ (n : Nat)  (s : zS), zV X (zq X zrV) 2 8 [(0, .ref (zx_ad X 76))] [] s (f_X8_next_8 n  s) := by
  intro n
  induction n with
  | zero => intro  s; exact zv_none
  | succ n ih =>
    intro  s
    rw [f_X8_next_8]
    refine zv_aload_n hX dX8_next_8 0 rfl ?_
    refine zv_aload_n hX dX8_next_9 0 rfl ?_
    refine zv_geti hX wf_X8_110 wc_8 zd_76 zj_76_6 c9_8 zr_76_6 dX8_next_10 ?_
    refine zv_cVI [.int (s.1 76 6)] (rest := []) hX hT.2.2.2.2 (c_X8_see (zx_Y X) (s.1 76 6) s) wv_X8_see c9_8 zd_76 wm_X8_116 rfl (Nat.le_of_ble_eq_true rfl) (Nat.le_of_ble_eq_true rfl) rfl (Nat.le_of_ble_eq_true rfl) dX8_next_13 (fun r27 s28 => ?_)
    refine zv_bipush (v := (nI 10)) hX dX8_next_16 zi_b_10 ?_
    refine zv_icmp_eq (tgt := 34) hX dX8_next_18 rfl ?_ ?_
    · exact b_X8_next_34 hX hT ih  s28
    · refine zv_aload_n hX dX8_next_21 0 rfl ?_
      refine zv_aload_n hX dX8_next_22 0 rfl ?_
      refine zv_geti hX wf_X8_110 wc_8 zd_76 zj_76_6 c9_8 zr_76_6 dX8_next_23 ?_
      refine zv_cVI [.int (s28.1 76 6)] (rest := []) hX hT.2.2.2.2 (c_X8_see (zx_Y X) (s28.1 76 6) s28) wv_X8_see c9_8 zd_76 wm_X8_116 rfl (Nat.le_of_ble_eq_true rfl) (Nat.le_of_ble_eq_true rfl) rfl (Nat.le_of_ble_eq_true rfl) dX8_next_26 (fun r29 s30 => ?_)
      refine zv_bipush (v := (nI 32)) hX dX8_next_29 zi_b_32 ?_
      refine zv_icmp_ne (tgt := 47) hX dX8_next_31 rfl ?_ ?_
      · refine zv_aload_n hX dX8_next_47 0 rfl ?_
        refine zv_aload_n hX dX8_next_48 0 rfl ?_
        refine zv_geti hX wf_X8_110 wc_8 zd_76 zj_76_6 c9_8 zr_76_6 dX8_next_49 ?_
        refine zv_puti hX wf_X8_113 wc_8 wk_8_7 zd_76 zj_76_7 c9_8 zr_76_7 dX8_next_52 (fun s31 => ?_)
        refine zv_aload_n hX dX8_next_55 0 rfl ?_
        refine zv_geti hX wf_X8_110 wc_8 zd_76 zj_76_6 c9_8 zr_76_6 dX8_next_56 ?_
        refine zv_aload_n hX dX8_next_59 0 rfl ?_
        refine zv_geti hX wf_X8_95 wc_8 zd_76 zj_76_8 c9_8 zr_76_8 dX8_next_60 ?_
        refine zv_icmp_lt (tgt := 75) hX dX8_next_63 rfl ?_ ?_
        · refine zv_aload_n hX dX8_next_75 0 rfl ?_
          refine zv_aload_n hX dX8_next_76 0 rfl ?_
          refine zv_geti hX wf_X8_110 wc_8 zd_76 zj_76_6 c9_8 zr_76_6 dX8_next_77 ?_
          refine zv_cVI [.int (s31.1 76 6)] (rest := []) hX hT.2.2.2.2 (c_X8_see (zx_Y X) (s31.1 76 6) s31) wv_X8_see c9_8 zd_76 wm_X8_116 rfl (Nat.le_of_ble_eq_true rfl) (Nat.le_of_ble_eq_true rfl) rfl (Nat.le_of_ble_eq_true rfl) dX8_next_80 (fun r32 s33 => ?_)
          refine zv_cSI [.int r32] (rest := []) hX hT.2.2.2.2 (c_X8_isSmall (zx_Y X) r32 s33) wv_X8_isSmall wm_X8_123 rfl (Nat.le_of_ble_eq_true rfl) (Nat.le_of_ble_eq_true rfl) rfl (Nat.le_of_ble_eq_true rfl) dX8_next_83 (fun r34 s35 => ?_)
          refine zv_if_eq (tgt := 127) hX dX8_next_86 rfl ?_ ?_
          · refine zv_aload_n hX dX8_next_127 0 rfl ?_
            refine zv_aload_n hX dX8_next_128 0 rfl ?_
            refine zv_geti hX wf_X8_110 wc_8 zd_76 zj_76_6 c9_8 zr_76_6 dX8_next_129 ?_
            refine zv_cVI [.int (s35.1 76 6)] (rest := []) hX hT.2.2.2.2 (c_X8_see (zx_Y X) (s35.1 76 6) s35) wv_X8_see c9_8 zd_76 wm_X8_116 rfl (Nat.le_of_ble_eq_true rfl) (Nat.le_of_ble_eq_true rfl) rfl (Nat.le_of_ble_eq_true rfl) dX8_next_132 (fun r36 s37 => ?_)
            refine zv_cSI [.int r36] (rest := []) hX hT.2.2.2.2 (c_X8_isDigit (zx_Y X) r36 s37) wv_X8_isDigit wm_X8_130 rfl (Nat.le_of_ble_eq_true rfl) (Nat.le_of_ble_eq_true rfl) rfl (Nat.le_of_ble_eq_true rfl) dX8_next_135 (fun r38 s39 => ?_)
            refine zv_if_eq (tgt := 236) hX dX8_next_138 rfl ?_ ?_
            · refine zv_aload_n hX dX8_next_236 0 rfl ?_
              refine zv_dup hX dX8_next_237 rfl ?_
              refine zv_geti hX wf_X8_113 wc_8 zd_76 zj_76_7 c9_8 zr_76_7 dX8_next_238 ?_
              refine zv_iconst (v := (1 : Int32)) hX dX8_next_241 zi_i_1 ?_
              refine zv_iadd hX dX8_next_242 ?_
              refine zv_puti hX wf_X8_113 wc_8 wk_8_7 zd_76 zj_76_7 c9_8 zr_76_7 dX8_next_243 (fun s40 => ?_)
              refine zv_aload_n hX dX8_next_246 0 rfl ?_
              refine zv_bipush (v := (nI 25)) hX dX8_next_247 zi_b_25 ?_
              refine zv_puti hX wf_X8_120 wc_8 wk_8_9 zd_76 zj_76_9 c9_8 zr_76_9 dX8_next_249 (fun s41 => ?_)
              refine zv_iconst (v := (0 : Int32)) hX dX8_next_252 zi_i_0 ?_
              refine zv_istore_n (lv' := [(1, .int (0 : Int32)), (0, .ref (zx_ad X 76))]) hX dX8_next_253 (by decide) rfl ?_
              exact zv_sub [1, 0] rfl (b_X8_next_254 hX hT zFU (0 : Int32) s41)
            · refine zv_aload_n hX dX8_next_141 0 rfl ?_
              refine zv_iconst (v := (0 : Int32)) hX dX8_next_142 zi_i_0 ?_
              refine zv_puti hX wf_X8_133 wc_8 wk_8_10 zd_76 zj_76_10 c9_8 zr_76_10 dX8_next_143 (fun s42 => ?_)
              exact b_X8_next_146 hX hT zFU  s42
          · exact b_X8_next_89 hX hT zFU  s35
        · refine zv_aload_n hX dX8_next_66 0 rfl ?_
          refine zv_bipush (v := (nI 24)) hX dX8_next_67 zi_b_24 ?_
          refine zv_puti hX wf_X8_120 wc_8 wk_8_9 zd_76 zj_76_9 c9_8 zr_76_9 dX8_next_69 (fun s43 => ?_)
          refine zv_goto (tgt := 294) hX dX8_next_72 rfl ?_
          exact zv_sub [] rfl (b_X8_next_294 hX hT  s43)
      · exact b_X8_next_34 hX hT ih  s30
def f_X8_next  (s : zS) : Option (Unit × zS) :=
  zb (zs_i s 76 6 (s.1 76 7)) fun s44 =>
  f_X8_next_8 zFU s44
set_option maxRecDepth 20000 in
theorem c_X8_next (Y : zG)  (s : zS) : zM Y yX8_next cX8_next 2 none (zR 5 108) [.ref (zy_a Y 76)] s zrV (f_X8_next  s) := by
  refine zm_start (by decide +kernel) (Nat.le_of_ble_eq_true rfl) ?_
  intro X hY hT hX
  subst hY
  have hX : zx_ok X cX8_next RX8 2 := hX
  show zV X (zq X zrV) 2 0 [(0, .ref (zx_ad X 76))] [] s _
  unfold f_X8_next
  refine zv_aload_n hX dX8_next_0 0 rfl ?_
  refine zv_aload_n hX dX8_next_1 0 rfl ?_
  refine zv_geti hX wf_X8_113 wc_8 zd_76 zj_76_7 c9_8 zr_76_7 dX8_next_2 ?_
  refine zv_puti hX wf_X8_110 wc_8 wk_8_6 zd_76 zj_76_6 c9_8 zr_76_6 dX8_next_5 (fun s44 => ?_)
  exact b_X8_next_8 hX hT zFU  s44
theorem dX8_eats_0 : decode cX8_eats 0 = .ok (.aload_n 0, 1) := by decide +kernel
theorem dX8_eats_1 : decode cX8_eats 1 = .ok (.iload_n 1, 1) := by decide +kernel
theorem dX8_eats_2 : decode cX8_eats 2 = .ok (.invokevirtual 144, 3) := by decide +kernel
theorem dX8_eats_5 : decode cX8_eats 5 = .ok (.ifCond .ne 5, 3) := by decide +kernel
theorem dX8_eats_8 : decode cX8_eats 8 = .ok (.iconst 0, 1) := by decide +kernel
theorem dX8_eats_9 : decode cX8_eats 9 = .ok (.ireturn, 1) := by decide +kernel
theorem dX8_eats_10 : decode cX8_eats 10 = .ok (.aload_n 0, 1) := by decide +kernel
theorem dX8_eats_11 : decode cX8_eats 11 = .ok (.invokevirtual 147, 3) := by decide +kernel
theorem dX8_eats_14 : decode cX8_eats 14 = .ok (.iconst 1, 1) := by decide +kernel
theorem dX8_eats_15 : decode cX8_eats 15 = .ok (.ireturn, 1) := by decide +kernel
def f_X8_eats (v1 : Int32) (s : zS) : Option (Int32 × zS) :=
  zbd (f_X8_is v1 s) fun r1 s2 =>
  if ¬ r1 = 0 then
  (zbd (f_X8_next s2) fun _ s3 =>
  some ((1 : Int32), s3))
  else
  some ((0 : Int32), s2)
set_option maxRecDepth 20000 in
theorem c_X8_eats (Y : zG) (v1 : Int32) (s : zS) : zM Y yX8_eats cX8_eats 2 (some .boolean) (zR 6 129) [.ref (zy_a Y 76), .int v1] s zrI (f_X8_eats v1 s) := by
  refine zm_start (by decide +kernel) (Nat.le_of_ble_eq_true rfl) ?_
  intro X hY hT hX
  subst hY
  have hX : zx_ok X cX8_eats RX8 2 := hX
  show zV X (zq X zrI) 2 0 [(0, .ref (zx_ad X 76)), (1, .int v1)] [] s _
  unfold f_X8_eats
  refine zv_aload_n hX dX8_eats_0 0 rfl ?_
  refine zv_iload_n hX dX8_eats_1 1 rfl ?_
  refine zv_cVI [.int v1] (rest := []) hX hT.2.2.2.2 (c_X8_is (zx_Y X) v1 s) wv_X8_is c9_8 zd_76 wm_X8_144 rfl (Nat.le_of_ble_eq_true rfl) (Nat.le_of_ble_eq_true rfl) rfl (Nat.le_of_ble_eq_true rfl) dX8_eats_2 (fun r1 s2 => ?_)
  refine zv_if_ne (tgt := 10) hX dX8_eats_5 rfl ?_ ?_
  · refine zv_aload_n hX dX8_eats_10 0 rfl ?_
    refine zv_cVV [] (rest := []) hX hT.2.2.2.2 (c_X8_next (zx_Y X) s2) wv_X8_next c9_8 zd_76 wm_X8_147 rfl (Nat.le_of_ble_eq_true rfl) (Nat.le_of_ble_eq_true rfl) rfl (Nat.le_of_ble_eq_true rfl) dX8_eats_11 (fun _ s3 => ?_)
    refine zv_iconst (v := (1 : Int32)) hX dX8_eats_14 zi_i_1 ?_
    exact zv_iretz hX hT (by decide) dX8_eats_15
  · refine zv_iconst (v := (0 : Int32)) hX dX8_eats_8 zi_i_0 ?_
    exact zv_iretz hX hT (by decide) dX8_eats_9
theorem dX8_fails_0 : decode cX8_fails 0 = .ok (.aload_n 0, 1) := by decide +kernel
theorem dX8_fails_1 : decode cX8_fails 1 = .ok (.getfield 138, 3) := by decide +kernel
theorem dX8_fails_4 : decode cX8_fails 4 = .ok (.ifCond .eq 4, 3) := by decide +kernel
theorem dX8_fails_7 : decode cX8_fails 7 = .ok (.return_, 1) := by decide +kernel
theorem dX8_fails_8 : decode cX8_fails 8 = .ok (.aload_n 0, 1) := by decide +kernel
theorem dX8_fails_9 : decode cX8_fails 9 = .ok (.aload_n 0, 1) := by decide +kernel
theorem dX8_fails_10 : decode cX8_fails 10 = .ok (.getfield 120, 3) := by decide +kernel
theorem dX8_fails_13 : decode cX8_fails 13 = .ok (.bipush 25, 2) := by decide +kernel
theorem dX8_fails_15 : decode cX8_fails 15 = .ok (.if_icmp .ne 7, 3) := by decide +kernel
theorem dX8_fails_18 : decode cX8_fails 18 = .ok (.iconst 1, 1) := by decide +kernel
theorem dX8_fails_19 : decode cX8_fails 19 = .ok (.goto 4, 3) := by decide +kernel
theorem dX8_fails_22 : decode cX8_fails 22 = .ok (.iload_n 1, 1) := by decide +kernel
theorem dX8_fails_23 : decode cX8_fails 23 = .ok (.putfield 138, 3) := by decide +kernel
theorem dX8_fails_26 : decode cX8_fails 26 = .ok (.aload_n 0, 1) := by decide +kernel
theorem dX8_fails_27 : decode cX8_fails 27 = .ok (.aload_n 0, 1) := by decide +kernel
theorem dX8_fails_28 : decode cX8_fails 28 = .ok (.getfield 110, 3) := by decide +kernel
theorem dX8_fails_31 : decode cX8_fails 31 = .ok (.putfield 141, 3) := by decide +kernel
theorem dX8_fails_34 : decode cX8_fails 34 = .ok (.return_, 1) := by decide +kernel
def f_X8_fails_23 (w0 : Int32) (s : zS) : Option (Unit × zS) :=
  zb (zs_i s 76 11 w0) fun s1 =>
  zb (zs_i s1 76 12 (s1.1 76 6)) fun s2 =>
  some ((), s2)
set_option maxRecDepth 20000 in
theorem b_X8_fails_23 {X : zX} (hX : zx_ok X cX8_fails RX8 2) (hT : zx_rt X none (zR 0 0)) : ∀ (w0 : Int32) (s : zS), zV X (zq X zrV) 2 23 [(0, .ref (zx_ad X 76))] [.int w0, .ref (zx_ad X 76)] s (f_X8_fails_23 w0 s) := by
  intro w0 s
  unfold f_X8_fails_23
  refine zv_puti hX wf_X8_138 wc_8 wk_8_11 zd_76 zj_76_11 c9_8 zr_76_11 dX8_fails_23 (fun s1 => ?_)
  refine zv_aload_n hX dX8_fails_26 0 rfl ?_
  refine zv_aload_n hX dX8_fails_27 0 rfl ?_
  refine zv_geti hX wf_X8_110 wc_8 zd_76 zj_76_6 c9_8 zr_76_6 dX8_fails_28 ?_
  refine zv_puti hX wf_X8_141 wc_8 wk_8_12 zd_76 zj_76_12 c9_8 zr_76_12 dX8_fails_31 (fun s2 => ?_)
  exact zv_vret hX hT dX8_fails_34
def f_X8_fails (v1 : Int32) (s : zS) : Option (Unit × zS) :=
  if (s.1 76 11) = 0 then
  (if ¬ (s.1 76 9) = (nI 25) then
  (f_X8_fails_23 v1 s)
  else
  f_X8_fails_23 (1 : Int32) s)
  else
  some ((), s)
set_option maxRecDepth 20000 in
theorem c_X8_fails (Y : zG) (v1 : Int32) (s : zS) : zM Y yX8_fails cX8_fails 2 none (zR 0 0) [.ref (zy_a Y 76), .int v1] s zrV (f_X8_fails v1 s) := by
  refine zm_start (by decide +kernel) (Nat.le_of_ble_eq_true rfl) ?_
  intro X hY hT hX
  subst hY
  have hX : zx_ok X cX8_fails RX8 2 := hX
  show zV X (zq X zrV) 2 0 [(0, .ref (zx_ad X 76)), (1, .int v1)] [] s _
  unfold f_X8_fails
  refine zv_aload_n hX dX8_fails_0 0 rfl ?_
  refine zv_geti hX wf_X8_138 wc_8 zd_76 zj_76_11 c9_8 zr_76_11 dX8_fails_1 ?_
  refine zv_if_eq (tgt := 8) hX dX8_fails_4 rfl ?_ ?_
  · refine zv_aload_n hX dX8_fails_8 0 rfl ?_
    refine zv_aload_n hX dX8_fails_9 0 rfl ?_
    refine zv_geti hX wf_X8_120 wc_8 zd_76 zj_76_9 c9_8 zr_76_9 dX8_fails_10 ?_
    refine zv_bipush (v := (nI 25)) hX dX8_fails_13 zi_b_25 ?_
    refine zv_icmp_ne (tgt := 22) hX dX8_fails_15 rfl ?_ ?_
    · refine zv_iload_n hX dX8_fails_22 1 rfl ?_
      exact zv_sub [0] rfl (b_X8_fails_23 hX hT v1 s)
    · refine zv_iconst (v := (1 : Int32)) hX dX8_fails_18 zi_i_1 ?_
      refine zv_goto (tgt := 23) hX dX8_fails_19 rfl ?_
      exact zv_sub [0] rfl (b_X8_fails_23 hX hT (1 : Int32) s)
  · exact zv_vret hX hT dX8_fails_7
theorem dX8_ends_0 : decode cX8_ends 0 = .ok (.aload_n 0, 1) := by decide +kernel
theorem dX8_ends_1 : decode cX8_ends 1 = .ok (.bipush 30, 2) := by decide +kernel
theorem dX8_ends_3 : decode cX8_ends 3 = .ok (.invokevirtual 173, 3) := by decide +kernel
theorem dX8_ends_6 : decode cX8_ends 6 = .ok (.ifCond .ne 8, 3) := by decide +kernel
theorem dX8_ends_9 : decode cX8_ends 9 = .ok (.aload_n 0, 1) := by decide +kernel
theorem dX8_ends_10 : decode cX8_ends 10 = .ok (.iconst 2, 1) := by decide +kernel
theorem dX8_ends_11 : decode cX8_ends 11 = .ok (.invokevirtual 150, 3) := by decide +kernel
theorem dX8_ends_14 : decode cX8_ends 14 = .ok (.aload_n 0, 1) := by decide +kernel
theorem dX8_ends_15 : decode cX8_ends 15 = .ok (.getfield 24, 3) := by decide +kernel
theorem dX8_ends_18 : decode cX8_ends 18 = .ok (.iconst 0, 1) := by decide +kernel
theorem dX8_ends_19 : decode cX8_ends 19 = .ok (.dup2, 1) := by decide +kernel
theorem dX8_ends_20 : decode cX8_ends 20 = .ok (.iaload, 1) := by decide +kernel
theorem dX8_ends_21 : decode cX8_ends 21 = .ok (.iconst 1, 1) := by decide +kernel
theorem dX8_ends_22 : decode cX8_ends 22 = .ok (.iadd, 1) := by decide +kernel
theorem dX8_ends_23 : decode cX8_ends 23 = .ok (.iastore, 1) := by decide +kernel
theorem dX8_ends_24 : decode cX8_ends 24 = .ok (.return_, 1) := by decide +kernel
def f_X8_ends_14  (s : zS) : Option (Unit × zS) :=
  (zr_i s 80 (0 : Int32)).bind fun x1 =>
  (zw_i s 80 (0 : Int32) (x1 + (1 : Int32))).bind fun s2 =>
  some ((), s2)
set_option maxRecDepth 20000 in
theorem b_X8_ends_14 {X : zX} (hX : zx_ok X cX8_ends RX8 1) (hT : zx_rt X none (zR 7 150)) : ∀  (s : zS), zV X (zq X zrV) 1 14 [(0, .ref (zx_ad X 76))] [] s (f_X8_ends_14  s) := by
  intro  s
  unfold f_X8_ends_14
  refine zv_aload_n hX dX8_ends_14 0 rfl ?_
  refine zv_geta hX wf_X8_24 wc_8 zd_76 zj_76_4 c9_8 zr_76_4 (by decide) dX8_ends_15 ?_
  refine zv_iconst (v := (0 : Int32)) hX dX8_ends_18 zi_i_0 ?_
  refine zv_dup2 hX dX8_ends_19 rfl rfl ?_
  refine zv_iald hX dX8_ends_20 (fun x1 => ?_)
  refine zv_iconst (v := (1 : Int32)) hX dX8_ends_21 zi_i_1 ?_
  refine zv_iadd hX dX8_ends_22 ?_
  refine zv_iast hX dX8_ends_23 (fun s2 => ?_)
  exact zv_vret hX hT dX8_ends_24
def f_X8_ends  (s : zS) : Option (Unit × zS) :=
  zbd (f_X8_eats (nI 30) s) fun r3 s4 =>
  if ¬ r3 = 0 then
  (f_X8_ends_14 s4)
  else
  zbd (f_X8_fails (nI 2) s4) fun _ s5 =>
  f_X8_ends_14 s5
set_option maxRecDepth 20000 in
theorem c_X8_ends (Y : zG)  (s : zS) : zM Y yX8_ends cX8_ends 1 none (zR 7 150) [.ref (zy_a Y 76)] s zrV (f_X8_ends  s) := by
  refine zm_start (by decide +kernel) (Nat.le_of_ble_eq_true rfl) ?_
  intro X hY hT hX
  subst hY
  have hX : zx_ok X cX8_ends RX8 1 := hX
  show zV X (zq X zrV) 1 0 [(0, .ref (zx_ad X 76))] [] s _
  unfold f_X8_ends
  refine zv_aload_n hX dX8_ends_0 0 rfl ?_
  refine zv_bipush (v := (nI 30)) hX dX8_ends_1 zi_b_30 ?_
  refine zv_cVI [.int (nI 30)] (rest := []) hX hT.2.2.2.2 (c_X8_eats (zx_Y X) (nI 30) s) wv_X8_eats c9_8 zd_76 wm_X8_173 rfl (Nat.le_of_ble_eq_true rfl) (Nat.le_of_ble_eq_true rfl) rfl (Nat.le_of_ble_eq_true rfl) dX8_ends_3 (fun r3 s4 => ?_)
  refine zv_if_ne (tgt := 14) hX dX8_ends_6 rfl ?_ ?_
  · exact b_X8_ends_14 hX hT  s4
  · refine zv_aload_n hX dX8_ends_9 0 rfl ?_
    refine zv_iconst (v := (nI 2)) hX dX8_ends_10 zi_i_2 ?_
    refine zv_cVV [.int (nI 2)] (rest := []) hX hT.2.2.2.2 (c_X8_fails (zx_Y X) (nI 2) s4) wv_X8_fails c9_8 zd_76 wm_X8_150 rfl (Nat.le_of_ble_eq_true rfl) (Nat.le_of_ble_eq_true rfl) rfl (Nat.le_of_ble_eq_true rfl) dX8_ends_11 (fun _ s5 => ?_)
    exact b_X8_ends_14 hX hT  s5
theorem dX8_keeps_0 : decode cX8_keeps 0 = .ok (.iconst 0, 1) := by decide +kernel
theorem dX8_keeps_1 : decode cX8_keeps 1 = .ok (.istore_n 1, 1) := by decide +kernel
theorem dX8_keeps_2 : decode cX8_keeps 2 = .ok (.iload_n 1, 1) := by decide +kernel
theorem dX8_keeps_3 : decode cX8_keeps 3 = .ok (.bipush 21, 2) := by decide +kernel
theorem dX8_keeps_5 : decode cX8_keeps 5 = .ok (.if_icmp .ge 24, 3) := by decide +kernel
theorem dX8_keeps_8 : decode cX8_keeps 8 = .ok (.aload_n 0, 1) := by decide +kernel
theorem dX8_keeps_9 : decode cX8_keeps 9 = .ok (.getfield 57, 3) := by decide +kernel
theorem dX8_keeps_12 : decode cX8_keeps 12 = .ok (.iload_n 1, 1) := by decide +kernel
theorem dX8_keeps_13 : decode cX8_keeps 13 = .ok (.aload_n 0, 1) := by decide +kernel
theorem dX8_keeps_14 : decode cX8_keeps 14 = .ok (.getfield 13, 3) := by decide +kernel
theorem dX8_keeps_17 : decode cX8_keeps 17 = .ok (.bipush 22, 2) := by decide +kernel
theorem dX8_keeps_19 : decode cX8_keeps 19 = .ok (.iload_n 1, 1) := by decide +kernel
theorem dX8_keeps_20 : decode cX8_keeps 20 = .ok (.iadd, 1) := by decide +kernel
theorem dX8_keeps_21 : decode cX8_keeps 21 = .ok (.iaload, 1) := by decide +kernel
theorem dX8_keeps_22 : decode cX8_keeps 22 = .ok (.iastore, 1) := by decide +kernel
theorem dX8_keeps_23 : decode cX8_keeps 23 = .ok (.iinc 1 1, 3) := by decide +kernel
theorem dX8_keeps_26 : decode cX8_keeps 26 = .ok (.goto (-24), 3) := by decide +kernel
theorem dX8_keeps_29 : decode cX8_keeps 29 = .ok (.return_, 1) := by decide +kernel
def f_X8_keeps_2 : Nat → Int32 → zS → Option (Unit × zS)
  | 0, _, _ => none
  | n + 1, v1, s =>
    if (nI 21) ≤ v1 then
    (some ((), s))
    else
    (zr_i s 77 ((nI 22) + v1)).bind fun x1 =>
    (zw_i s 90 v1 x1).bind fun s2 =>
    zb (v1 + (1 : Int32)) fun x3 =>
    f_X8_keeps_2 n x3 s2
set_option maxRecDepth 20000 in
theorem b_X8_keeps_2 {X : zX} (hX : zx_ok X cX8_keeps RX8 2) (hT : zx_rt X none (zR 0 0)) : ∀ (n : Nat) (v1 : Int32) (s : zS), zV X (zq X zrV) 2 2 [(0, .ref (zx_ad X 76)), (1, .int v1)] [] s (f_X8_keeps_2 n v1 s) := by
  intro n
  induction n with
  | zero => intro v1 s; exact zv_none
  | succ n ih =>
    intro v1 s
    rw [f_X8_keeps_2]
    refine zv_iload_n hX dX8_keeps_2 1 rfl ?_
    refine zv_bipush (v := (nI 21)) hX dX8_keeps_3 zi_b_21 ?_
    refine zv_icmp_ge (tgt := 29) hX dX8_keeps_5 rfl ?_ ?_
    · exact zv_vret hX hT dX8_keeps_29
    · refine zv_aload_n hX dX8_keeps_8 0 rfl ?_
      refine zv_geta hX wf_X8_57 wc_8 zd_76 zj_76_27 c9_8 zr_76_27 (by decide) dX8_keeps_9 ?_
      refine zv_iload_n hX dX8_keeps_12 1 rfl ?_
      refine zv_aload_n hX dX8_keeps_13 0 rfl ?_
      refine zv_geta hX wf_X8_13 wc_8 zd_76 zj_76_1 c9_8 zr_76_1 (by decide) dX8_keeps_14 ?_
      refine zv_bipush (v := (nI 22)) hX dX8_keeps_17 zi_b_22 ?_
      refine zv_iload_n hX dX8_keeps_19 1 rfl ?_
      refine zv_iadd hX dX8_keeps_20 ?_
      refine zv_iald hX dX8_keeps_21 (fun x1 => ?_)
      refine zv_iast hX dX8_keeps_22 (fun s2 => ?_)
      refine zv_iincB (lw := fun x3 => [(1, .int x3), (0, .ref (zx_ad X 76))]) hX dX8_keeps_23 1 rfl zi_i_1 (by decide) (fun _ => rfl) (fun x3 => ?_)
      refine zv_goto (tgt := 2) hX dX8_keeps_26 rfl ?_
      exact zv_sub [1, 0] rfl (ih x3 s2)
def f_X8_keeps  (s : zS) : Option (Unit × zS) :=
  f_X8_keeps_2 zFU (0 : Int32) s
set_option maxRecDepth 20000 in
theorem c_X8_keeps (Y : zG)  (s : zS) : zM Y yX8_keeps cX8_keeps 2 none (zR 0 0) [.ref (zy_a Y 76)] s zrV (f_X8_keeps  s) := by
  refine zm_start (by decide +kernel) (Nat.le_of_ble_eq_true rfl) ?_
  intro X hY hT hX
  subst hY
  have hX : zx_ok X cX8_keeps RX8 2 := hX
  show zV X (zq X zrV) 2 0 [(0, .ref (zx_ad X 76))] [] s _
  unfold f_X8_keeps
  refine zv_iconst (v := (0 : Int32)) hX dX8_keeps_0 zi_i_0 ?_
  refine zv_istore_n (lv' := [(1, .int (0 : Int32)), (0, .ref (zx_ad X 76))]) hX dX8_keeps_1 (by decide) rfl ?_
  exact zv_sub [1, 0] rfl (b_X8_keeps_2 hX hT zFU (0 : Int32) s)
theorem dX8_notes_0 : decode cX8_notes 0 = .ok (.aload_n 0, 1) := by decide +kernel
theorem dX8_notes_1 : decode cX8_notes 1 = .ok (.getfield 13, 3) := by decide +kernel
theorem dX8_notes_4 : decode cX8_notes 4 = .ok (.bipush 43, 2) := by decide +kernel
theorem dX8_notes_6 : decode cX8_notes 6 = .ok (.iaload, 1) := by decide +kernel
theorem dX8_notes_7 : decode cX8_notes 7 = .ok (.bipush 10, 2) := by decide +kernel
theorem dX8_notes_9 : decode cX8_notes 9 = .ok (.if_icmp .ne 47, 3) := by decide +kernel
theorem dX8_notes_12 : decode cX8_notes 12 = .ok (.iconst 0, 1) := by decide +kernel
theorem dX8_notes_13 : decode cX8_notes 13 = .ok (.istore_n 1, 1) := by decide +kernel
theorem dX8_notes_14 : decode cX8_notes 14 = .ok (.iload_n 1, 1) := by decide +kernel
theorem dX8_notes_15 : decode cX8_notes 15 = .ok (.sipush 189, 3) := by decide +kernel
theorem dX8_notes_18 : decode cX8_notes 18 = .ok (.if_icmp .ge 27, 3) := by decide +kernel
theorem dX8_notes_21 : decode cX8_notes 21 = .ok (.aload_n 0, 1) := by decide +kernel
theorem dX8_notes_22 : decode cX8_notes 22 = .ok (.getfield 13, 3) := by decide +kernel
theorem dX8_notes_25 : decode cX8_notes 25 = .ok (.bipush 44, 2) := by decide +kernel
theorem dX8_notes_27 : decode cX8_notes 27 = .ok (.iload_n 1, 1) := by decide +kernel
theorem dX8_notes_28 : decode cX8_notes 28 = .ok (.iadd, 1) := by decide +kernel
theorem dX8_notes_29 : decode cX8_notes 29 = .ok (.aload_n 0, 1) := by decide +kernel
theorem dX8_notes_30 : decode cX8_notes 30 = .ok (.getfield 13, 3) := by decide +kernel
theorem dX8_notes_33 : decode cX8_notes 33 = .ok (.bipush 65, 2) := by decide +kernel
theorem dX8_notes_35 : decode cX8_notes 35 = .ok (.iload_n 1, 1) := by decide +kernel
theorem dX8_notes_36 : decode cX8_notes 36 = .ok (.iadd, 1) := by decide +kernel
theorem dX8_notes_37 : decode cX8_notes 37 = .ok (.iaload, 1) := by decide +kernel
theorem dX8_notes_38 : decode cX8_notes 38 = .ok (.iastore, 1) := by decide +kernel
theorem dX8_notes_39 : decode cX8_notes 39 = .ok (.iinc 1 1, 3) := by decide +kernel
theorem dX8_notes_42 : decode cX8_notes 42 = .ok (.goto (-28), 3) := by decide +kernel
theorem dX8_notes_45 : decode cX8_notes 45 = .ok (.aload_n 0, 1) := by decide +kernel
theorem dX8_notes_46 : decode cX8_notes 46 = .ok (.getfield 13, 3) := by decide +kernel
theorem dX8_notes_49 : decode cX8_notes 49 = .ok (.bipush 43, 2) := by decide +kernel
theorem dX8_notes_51 : decode cX8_notes 51 = .ok (.dup2, 1) := by decide +kernel
theorem dX8_notes_52 : decode cX8_notes 52 = .ok (.iaload, 1) := by decide +kernel
theorem dX8_notes_53 : decode cX8_notes 53 = .ok (.iconst 1, 1) := by decide +kernel
theorem dX8_notes_54 : decode cX8_notes 54 = .ok (.isub, 1) := by decide +kernel
theorem dX8_notes_55 : decode cX8_notes 55 = .ok (.iastore, 1) := by decide +kernel
theorem dX8_notes_56 : decode cX8_notes 56 = .ok (.iconst 0, 1) := by decide +kernel
theorem dX8_notes_57 : decode cX8_notes 57 = .ok (.istore_n 1, 1) := by decide +kernel
theorem dX8_notes_58 : decode cX8_notes 58 = .ok (.iload_n 1, 1) := by decide +kernel
theorem dX8_notes_59 : decode cX8_notes 59 = .ok (.bipush 21, 2) := by decide +kernel
theorem dX8_notes_61 : decode cX8_notes 61 = .ok (.if_icmp .ge 35, 3) := by decide +kernel
theorem dX8_notes_64 : decode cX8_notes 64 = .ok (.aload_n 0, 1) := by decide +kernel
theorem dX8_notes_65 : decode cX8_notes 65 = .ok (.getfield 13, 3) := by decide +kernel
theorem dX8_notes_68 : decode cX8_notes 68 = .ok (.bipush 44, 2) := by decide +kernel
theorem dX8_notes_70 : decode cX8_notes 70 = .ok (.bipush 21, 2) := by decide +kernel
theorem dX8_notes_72 : decode cX8_notes 72 = .ok (.aload_n 0, 1) := by decide +kernel
theorem dX8_notes_73 : decode cX8_notes 73 = .ok (.getfield 13, 3) := by decide +kernel
theorem dX8_notes_76 : decode cX8_notes 76 = .ok (.bipush 43, 2) := by decide +kernel
theorem dX8_notes_78 : decode cX8_notes 78 = .ok (.iaload, 1) := by decide +kernel
theorem dX8_notes_79 : decode cX8_notes 79 = .ok (.imul, 1) := by decide +kernel
theorem dX8_notes_80 : decode cX8_notes 80 = .ok (.iadd, 1) := by decide +kernel
theorem dX8_notes_81 : decode cX8_notes 81 = .ok (.iload_n 1, 1) := by decide +kernel
theorem dX8_notes_82 : decode cX8_notes 82 = .ok (.iadd, 1) := by decide +kernel
theorem dX8_notes_83 : decode cX8_notes 83 = .ok (.aload_n 0, 1) := by decide +kernel
theorem dX8_notes_84 : decode cX8_notes 84 = .ok (.getfield 57, 3) := by decide +kernel
theorem dX8_notes_87 : decode cX8_notes 87 = .ok (.iload_n 1, 1) := by decide +kernel
theorem dX8_notes_88 : decode cX8_notes 88 = .ok (.iaload, 1) := by decide +kernel
theorem dX8_notes_89 : decode cX8_notes 89 = .ok (.iastore, 1) := by decide +kernel
theorem dX8_notes_90 : decode cX8_notes 90 = .ok (.iinc 1 1, 3) := by decide +kernel
theorem dX8_notes_93 : decode cX8_notes 93 = .ok (.goto (-35), 3) := by decide +kernel
theorem dX8_notes_96 : decode cX8_notes 96 = .ok (.aload_n 0, 1) := by decide +kernel
theorem dX8_notes_97 : decode cX8_notes 97 = .ok (.getfield 13, 3) := by decide +kernel
theorem dX8_notes_100 : decode cX8_notes 100 = .ok (.bipush 43, 2) := by decide +kernel
theorem dX8_notes_102 : decode cX8_notes 102 = .ok (.dup2, 1) := by decide +kernel
theorem dX8_notes_103 : decode cX8_notes 103 = .ok (.iaload, 1) := by decide +kernel
theorem dX8_notes_104 : decode cX8_notes 104 = .ok (.iconst 1, 1) := by decide +kernel
theorem dX8_notes_105 : decode cX8_notes 105 = .ok (.iadd, 1) := by decide +kernel
theorem dX8_notes_106 : decode cX8_notes 106 = .ok (.iastore, 1) := by decide +kernel
theorem dX8_notes_107 : decode cX8_notes 107 = .ok (.return_, 1) := by decide +kernel
def f_X8_notes_58 : Nat → Int32 → zS → Option (Unit × zS)
  | 0, _, _ => none
  | n + 1, v1, s =>
    if (nI 21) ≤ v1 then
    ((zr_i s 77 (nI 43)).bind fun x1 =>
    (zw_i s 77 (nI 43) (x1 + (1 : Int32))).bind fun s2 =>
    some ((), s2))
    else
    (zr_i s 77 (nI 43)).bind fun x3 =>
    (zr_i s 90 v1).bind fun x4 =>
    (zw_i s 77 (((nI 44) + ((nI 21) * x3)) + v1) x4).bind fun s5 =>
    zb (v1 + (1 : Int32)) fun x6 =>
    f_X8_notes_58 n x6 s5
set_option maxRecDepth 20000 in
theorem b_X8_notes_58 {X : zX} (hX : zx_ok X cX8_notes RX8 2) (hT : zx_rt X none (zR 0 0)) : ∀ (n : Nat) (v1 : Int32) (s : zS), zV X (zq X zrV) 2 58 [(0, .ref (zx_ad X 76)), (1, .int v1)] [] s (f_X8_notes_58 n v1 s) := by
  intro n
  induction n with
  | zero => intro v1 s; exact zv_none
  | succ n ih =>
    intro v1 s
    rw [f_X8_notes_58]
    refine zv_iload_n hX dX8_notes_58 1 rfl ?_
    refine zv_bipush (v := (nI 21)) hX dX8_notes_59 zi_b_21 ?_
    refine zv_icmp_ge (tgt := 96) hX dX8_notes_61 rfl ?_ ?_
    · refine zv_aload_n hX dX8_notes_96 0 rfl ?_
      refine zv_geta hX wf_X8_13 wc_8 zd_76 zj_76_1 c9_8 zr_76_1 (by decide) dX8_notes_97 ?_
      refine zv_bipush (v := (nI 43)) hX dX8_notes_100 zi_b_43 ?_
      refine zv_dup2 hX dX8_notes_102 rfl rfl ?_
      refine zv_iald hX dX8_notes_103 (fun x1 => ?_)
      refine zv_iconst (v := (1 : Int32)) hX dX8_notes_104 zi_i_1 ?_
      refine zv_iadd hX dX8_notes_105 ?_
      refine zv_iast hX dX8_notes_106 (fun s2 => ?_)
      exact zv_vret hX hT dX8_notes_107
    · refine zv_aload_n hX dX8_notes_64 0 rfl ?_
      refine zv_geta hX wf_X8_13 wc_8 zd_76 zj_76_1 c9_8 zr_76_1 (by decide) dX8_notes_65 ?_
      refine zv_bipush (v := (nI 44)) hX dX8_notes_68 zi_b_44 ?_
      refine zv_bipush (v := (nI 21)) hX dX8_notes_70 zi_b_21 ?_
      refine zv_aload_n hX dX8_notes_72 0 rfl ?_
      refine zv_geta hX wf_X8_13 wc_8 zd_76 zj_76_1 c9_8 zr_76_1 (by decide) dX8_notes_73 ?_
      refine zv_bipush (v := (nI 43)) hX dX8_notes_76 zi_b_43 ?_
      refine zv_iald hX dX8_notes_78 (fun x3 => ?_)
      refine zv_imul hX dX8_notes_79 ?_
      refine zv_iadd hX dX8_notes_80 ?_
      refine zv_iload_n hX dX8_notes_81 1 rfl ?_
      refine zv_iadd hX dX8_notes_82 ?_
      refine zv_aload_n hX dX8_notes_83 0 rfl ?_
      refine zv_geta hX wf_X8_57 wc_8 zd_76 zj_76_27 c9_8 zr_76_27 (by decide) dX8_notes_84 ?_
      refine zv_iload_n hX dX8_notes_87 1 rfl ?_
      refine zv_iald hX dX8_notes_88 (fun x4 => ?_)
      refine zv_iast hX dX8_notes_89 (fun s5 => ?_)
      refine zv_iincB (lw := fun x6 => [(1, .int x6), (0, .ref (zx_ad X 76))]) hX dX8_notes_90 1 rfl zi_i_1 (by decide) (fun _ => rfl) (fun x6 => ?_)
      refine zv_goto (tgt := 58) hX dX8_notes_93 rfl ?_
      exact zv_sub [1, 0] rfl (ih x6 s5)
def f_X8_notes_56  (s : zS) : Option (Unit × zS) :=
  f_X8_notes_58 zFU (0 : Int32) s
set_option maxRecDepth 20000 in
theorem b_X8_notes_56 {X : zX} (hX : zx_ok X cX8_notes RX8 2) (hT : zx_rt X none (zR 0 0)) : ∀  (s : zS), zV X (zq X zrV) 2 56 [(0, .ref (zx_ad X 76))] [] s (f_X8_notes_56  s) := by
  intro  s
  unfold f_X8_notes_56
  refine zv_iconst (v := (0 : Int32)) hX dX8_notes_56 zi_i_0 ?_
  refine zv_istore_n (lv' := [(1, .int (0 : Int32)), (0, .ref (zx_ad X 76))]) hX dX8_notes_57 (by decide) rfl ?_
  exact zv_sub [1, 0] rfl (b_X8_notes_58 hX hT zFU (0 : Int32) s)
def f_X8_notes_14 : Nat → Int32 → zS → Option (Unit × zS)
  | 0, _, _ => none
  | n + 1, v1, s =>
    if (nI 189) ≤ v1 then
    ((zr_i s 77 (nI 43)).bind fun x7 =>
    (zw_i s 77 (nI 43) (x7 - (1 : Int32))).bind fun s8 =>
    f_X8_notes_56 s8)
    else
    (zr_i s 77 ((nI 65) + v1)).bind fun x9 =>
    (zw_i s 77 ((nI 44) + v1) x9).bind fun s10 =>
    zb (v1 + (1 : Int32)) fun x11 =>
    f_X8_notes_14 n x11 s10
set_option maxRecDepth 20000 in
theorem b_X8_notes_14 {X : zX} (hX : zx_ok X cX8_notes RX8 2) (hT : zx_rt X none (zR 0 0)) : ∀ (n : Nat) (v1 : Int32) (s : zS), zV X (zq X zrV) 2 14 [(0, .ref (zx_ad X 76)), (1, .int v1)] [] s (f_X8_notes_14 n v1 s) := by
  intro n
  induction n with
  | zero => intro v1 s; exact zv_none
  | succ n ih =>
    intro v1 s
    rw [f_X8_notes_14]
    refine zv_iload_n hX dX8_notes_14 1 rfl ?_
    refine zv_sipush (v := (nI 189)) hX dX8_notes_15 zi_s_189 ?_
    refine zv_icmp_ge (tgt := 45) hX dX8_notes_18 rfl ?_ ?_
    · refine zv_aload_n hX dX8_notes_45 0 rfl ?_
      refine zv_geta hX wf_X8_13 wc_8 zd_76 zj_76_1 c9_8 zr_76_1 (by decide) dX8_notes_46 ?_
      refine zv_bipush (v := (nI 43)) hX dX8_notes_49 zi_b_43 ?_
      refine zv_dup2 hX dX8_notes_51 rfl rfl ?_
      refine zv_iald hX dX8_notes_52 (fun x7 => ?_)
      refine zv_iconst (v := (1 : Int32)) hX dX8_notes_53 zi_i_1 ?_
      refine zv_isub hX dX8_notes_54 ?_
      refine zv_iast hX dX8_notes_55 (fun s8 => ?_)
      exact zv_sub [0] rfl (b_X8_notes_56 hX hT  s8)
    · refine zv_aload_n hX dX8_notes_21 0 rfl ?_
      refine zv_geta hX wf_X8_13 wc_8 zd_76 zj_76_1 c9_8 zr_76_1 (by decide) dX8_notes_22 ?_
      refine zv_bipush (v := (nI 44)) hX dX8_notes_25 zi_b_44 ?_
      refine zv_iload_n hX dX8_notes_27 1 rfl ?_
      refine zv_iadd hX dX8_notes_28 ?_
      refine zv_aload_n hX dX8_notes_29 0 rfl ?_
      refine zv_geta hX wf_X8_13 wc_8 zd_76 zj_76_1 c9_8 zr_76_1 (by decide) dX8_notes_30 ?_
      refine zv_bipush (v := (nI 65)) hX dX8_notes_33 zi_b_65 ?_
      refine zv_iload_n hX dX8_notes_35 1 rfl ?_
      refine zv_iadd hX dX8_notes_36 ?_
      refine zv_iald hX dX8_notes_37 (fun x9 => ?_)
      refine zv_iast hX dX8_notes_38 (fun s10 => ?_)
      refine zv_iincB (lw := fun x11 => [(1, .int x11), (0, .ref (zx_ad X 76))]) hX dX8_notes_39 1 rfl zi_i_1 (by decide) (fun _ => rfl) (fun x11 => ?_)
      refine zv_goto (tgt := 14) hX dX8_notes_42 rfl ?_
      exact zv_sub [1, 0] rfl (ih x11 s10)
def f_X8_notes  (s : zS) : Option (Unit × zS) :=
  (zr_i s 77 (nI 43)).bind fun x12 =>
  if ¬ x12 = (nI 10) then
  (f_X8_notes_56 s)
  else
  f_X8_notes_14 zFU (0 : Int32) s
set_option maxRecDepth 20000 in
theorem c_X8_notes (Y : zG)  (s : zS) : zM Y yX8_notes cX8_notes 2 none (zR 0 0) [.ref (zy_a Y 76)] s zrV (f_X8_notes  s) := by
  refine zm_start (by decide +kernel) (Nat.le_of_ble_eq_true rfl) ?_
  intro X hY hT hX
  subst hY
  have hX : zx_ok X cX8_notes RX8 2 := hX
  show zV X (zq X zrV) 2 0 [(0, .ref (zx_ad X 76))] [] s _
  unfold f_X8_notes
  refine zv_aload_n hX dX8_notes_0 0 rfl ?_
  refine zv_geta hX wf_X8_13 wc_8 zd_76 zj_76_1 c9_8 zr_76_1 (by decide) dX8_notes_1 ?_
  refine zv_bipush (v := (nI 43)) hX dX8_notes_4 zi_b_43 ?_
  refine zv_iald hX dX8_notes_6 (fun x12 => ?_)
  refine zv_bipush (v := (nI 10)) hX dX8_notes_7 zi_b_10 ?_
  refine zv_icmp_ne (tgt := 56) hX dX8_notes_9 rfl ?_ ?_
  · exact b_X8_notes_56 hX hT  s
  · refine zv_iconst (v := (0 : Int32)) hX dX8_notes_12 zi_i_0 ?_
    refine zv_istore_n (lv' := [(1, .int (0 : Int32)), (0, .ref (zx_ad X 76))]) hX dX8_notes_13 (by decide) rfl ?_
    exact zv_sub [1, 0] rfl (b_X8_notes_14 hX hT zFU (0 : Int32) s)
