/-! THE CLAIM OUT OF ONE WALK OF THE LAW'S BODY. Your part is whole_start (and what it stands on); all else here is the same for every law, but numbers. -/
def R_law : String := "RingSignLaw"
def lw_P (b : Addr) (xs : List Int32) (args : Array Value) (s : State) : Prop := args = #[.ref b] ∧ s.IntsAt b xs ∧ xs.length ≤ 3072 ∧ (Jvm.Cond.and given_1 narrow_1).before args s = true
def lw_Q (_ : Array Value) (s : State) (o : Outcome) (t : State) : Prop := o = .returned (some (.int 1)) ∧ Framed s o t [] 600000 7302250
def lw_Z (below : List Frame) (a : Array Value) (s : State) : State → Prop := fun t => ∃ o, t.status = .running ∧ Ended t below o ∧ lw_Q a s o t
/-- the law's own end, with 1 on the stack, nothing written that was there before, its room as the claim has it -/
theorem lw_ret {p : Program} {l : Launch} {e : Env} {s : State} {m : MethodId} {below : List Frame} {meth : Method} {c : Code} {b : Nat} (hx : p.tables.exec = Jvm.exec) (hb : c.code = code) (hr : meth.sig.returnType = ret) (hlocks : meth.locks = false) {pc : Nat} {H : Heap} {ls : Array Slot} (hdg : decode code pc = .ok (.ireturn, 1)) : W p l e room_1 s m #[Value.ref b] below meth c H [] 600000 7302250 (lw_Z below #[Value.ref b] s) (F0 m pc ls [.int 1]) := by
  intro T hT X
  obtain ⟨fs, hret, hrun, hended, hW, hframe⟩ := X.leave (v := some (.int 1)) (hlocks := hlocks) (fun h => by rw [hr] at h; cases h)
  have hmeth' : T.vm.method? m = some meth := X.method'
  refine ⟨T.setFrames fs, ?_, .returned (some (.int 1)), hrun, hended, rfl, ⟨_, rfl⟩, hW, hframe⟩
  jvm_step X.here [X.here.top, hx, hb, hdg, hmeth', hr, ret, narrow_b1]
  (try refine ⟨rfl, ?_⟩); (try refine ⟨rfl, ?_⟩)
  first | (intro acts; rw [hret _ acts rfl rfl rfl]) | rw [hret _ _ rfl rfl rfl]
  exact Steps.refl _
/-- what holds at the law's entry: the machine, the code, the tables' words (any of lw_tbl by 'hts w (by decide +kernel)'), the script of L ints xs at the cell b, what the Statement gives of the start (any of its parts by flat_of_before) -/
def lw_At (p : Program) (s : State) (m : MethodId) (meth : Method) (c : Code) (b L : Nat) (xs : Nat → Int32) : Prop :=
  p.tables.exec = Jvm.exec ∧ c.code = code ∧ meth.sig.returnType = ret ∧ c.maxLocals = 4 ∧ s.vm.findClass R_law = some m.cls ∧ (∀ w ∈ lw_tbl, w.before #[Value.ref b] s = true) ∧ va_X b L xs s s.heap ∧ b < s.heap.size ∧ meth.locks = false ∧ (Jvm.Cond.and given_1 narrow_1).before #[Value.ref b] s = true
/-- the script, and what else the law's run knows -/
def zr_x (xs : Nat → Int32) (L : Nat) (i : Int32) : Option Int32 := if ¬ (i < 0 ∨ L ≤ i.toNatClampNeg) then some (xs i.toNatClampNeg) else none
def zl_t (X : zX) (b L : Nat) (xs : Nat → Int32) : Prop := zx_R X = room_1 ∧ va_X b L xs (zx_s X) (zx_s X).heap ∧ b < (zx_s X).heap.size ∧ ¬ zx_A X b ∧ (zx_meth X).sig.returnType = ret ∧ (zx_meth X).locks = false ∧ zx_args X = #[Value.ref b] ∧ zx_cells X ≤ 600000 ∧ zx_slots X ≤ 7302250 ∧ (∀ q, zx_A X q → (zx_s X).heap.size ≤ q)
def zl_q (X : zX) (b : Nat) : Unit × zS → State → Prop := fun _ => lw_Z (zx_below X) #[Value.ref b] (zx_s X)
section ZL
variable {ρ : Type} {X : zX} {Q : ρ × zS → State → Prop} {cc : ByteArray} {own : String} {nL pc b L : Nat} {xs : Nat → Int32} {lv lv' : List (Nat × Value)} {st rest : List Value} {s : zS} {o o1 o2 : Option (ρ × zS)}
theorem zv_xld {i : Int32} {f : Int32 → Option (ρ × zS)} (hX : zx_ok X cc own nL) (hT : zl_t X b L xs) (d : decode cc pc = .ok (.iaload, 1)) (kk : ∀ x, zV X Q nL (pc + 1) lv (.int x :: st) s (f x)) : zV X Q nL pc lv (.int i :: .ref b :: st) s ((zr_x xs L i).bind f) := by
  intro rr hrr H locs ls hl hw
  by_cases h : ¬ (i < 0 ∨ L ≤ i.toNatClampNeg)
  · rw [zr_x, if_pos h] at hrr
    exact va_sld hX.1 hX.2.1 hT.2.1 hT.2.2.1 hT.2.2.2.1 hw.2.2 h d (kk _ rr hrr H locs ls hl hw)
  · rw [zr_x, if_neg h] at hrr; cases hrr
theorem zv_xlen (hX : zx_ok X cc own nL) (hT : zl_t X b L xs) (d : decode cc pc = .ok (.arraylength, 1)) (k : zV X Q nL (pc + 1) lv (.int (nI L) :: st) s o) : zV X Q nL pc lv (.ref b :: st) s o := fun rr hr H locs ls hl hw => va_slen hX.1 hX.2.1 hT.2.1 hT.2.2.1 hT.2.2.2.1 hw.2.2 d (k rr hr H locs ls hl hw)
theorem zv_lend (hX : zx_ok X code own nL) (hT : zl_t X b L xs) (d : decode code pc = .ok (.ireturn, 1)) : zV X (zl_q X b) nL pc lv [.int 1] s (some ((), s)) := by
  intro rr hr H locs ls hl hw
  unfold zl_q zx_W
  rw [hT.2.2.2.2.2.2.1, hT.1]
  refine va_forget (fun q hq => hT.2.2.2.2.2.2.2.2.2 _ (hw.2.2.2.2 q hq)) ?_
  refine W.widen (k := 600000) (n := 7302250) hT.2.2.2.2.2.2.2.1 hT.2.2.2.2.2.2.2.2.1 ?_
  exact lw_ret hX.1 hX.2.1 hT.2.2.2.2.1 hT.2.2.2.2.2.1 d

theorem zv_lVI {o' : Option (Int32 × zS)} {f : Int32 → zS → Option (ρ × zS)} (As : List Value) {k c n idx mB fB lB : Nat} {y : MethodName} {bb : ByteArray} {rt : Option FieldType} (hX : zx_ok X cc own nL) (hT : zl_t X b L xs) (hM : zM (zx_Y X) y bb mB rt (zR fB lB) (.ref (zx_ad X k) :: As) s zrI o') (hy : zc_v y bb mB rt n c) (hc9 : c < 9) (hk : zk_d k = 4 + c) (hl : Cond.methodLink own idx y ∈ zw_T) (hn : As.length = n) (h1 : fB + 1 ≤ 2048) (h2 : 8 + (mB + 11) + lB ≤ 84000) (hst : st = As.reverse ++ .ref (zx_ad X k) :: rest) (hc : (rest.map fun v => v.category).sum ≤ 8) (d : decode cc pc = .ok (.invokevirtual idx, 3)) (kk : ∀ (r : Int32) (s2 : zS), zV X Q nL (pc + 3) lv (.int r :: rest) s2 (f r s2)) : zV X Q nL pc lv st s (zbd o' f) := zv_callV As hX hT.1 hM hy hc9 hk hl hn ⟨rfl, rfl, h1, h2⟩ hst hc d kk
theorem zv_lVJ {o' : Option (Int64 × zS)} {f : Int64 → zS → Option (ρ × zS)} (As : List Value) {k c n idx mB fB lB : Nat} {y : MethodName} {bb : ByteArray} {rt : Option FieldType} (hX : zx_ok X cc own nL) (hT : zl_t X b L xs) (hM : zM (zx_Y X) y bb mB rt (zR fB lB) (.ref (zx_ad X k) :: As) s zrJ o') (hy : zc_v y bb mB rt n c) (hc9 : c < 9) (hk : zk_d k = 4 + c) (hl : Cond.methodLink own idx y ∈ zw_T) (hn : As.length = n) (h1 : fB + 1 ≤ 2048) (h2 : 8 + (mB + 11) + lB ≤ 84000) (hst : st = As.reverse ++ .ref (zx_ad X k) :: rest) (hc : (rest.map fun v => v.category).sum ≤ 8) (d : decode cc pc = .ok (.invokevirtual idx, 3)) (kk : ∀ (r : Int64) (s2 : zS), zV X Q nL (pc + 3) lv (.long r :: rest) s2 (f r s2)) : zV X Q nL pc lv st s (zbd o' f) := zv_callV As hX hT.1 hM hy hc9 hk hl hn ⟨rfl, rfl, h1, h2⟩ hst hc d kk
end ZL
def RLw : String := "RingSignLaw"
theorem wm_Lw_9 : Cond.methodLink RLw 9 yX7_init ∈ zw_T := zw_t1 21 (by decide +kernel) (by decide +kernel)
theorem wm_Lw_12 : Cond.methodLink RLw 12 yX8_init ∈ zw_T := zw_t5 177 (by decide +kernel) (by decide +kernel)
theorem wm_Lw_13 : Cond.methodLink RLw 13 yX7_feed ∈ zw_T := zw_t2 132 (by decide +kernel) (by decide +kernel)
theorem wm_Lw_17 : Cond.methodLink RLw 17 yX8_feed ∈ zw_T := zw_t6 68 (by decide +kernel) (by decide +kernel)
theorem wm_Lw_18 : Cond.methodLink RLw 18 yX7_society ∈ zw_T := zw_t2 140 (by decide +kernel) (by decide +kernel)
theorem wm_Lw_22 : Cond.methodLink RLw 22 yX8_society ∈ zw_T := zw_t6 72 (by decide +kernel) (by decide +kernel)
theorem wm_Lw_23 : Cond.methodLink RLw 23 yX7_fault ∈ zw_T := zw_t3 125 (by decide +kernel) (by decide +kernel)
theorem wm_Lw_26 : Cond.methodLink RLw 26 yX8_fault ∈ zw_T := zw_t6 181 (by decide +kernel) (by decide +kernel)
theorem wm_Lw_27 : Cond.methodLink RLw 27 yX7_person ∈ zw_T := zw_t3 129 (by decide +kernel) (by decide +kernel)
theorem wm_Lw_31 : Cond.methodLink RLw 31 yX8_person ∈ zw_T := zw_t6 185 (by decide +kernel) (by decide +kernel)
theorem wm_Lw_32 : Cond.methodLink RLw 32 yX7_crosses ∈ zw_T := zw_t3 208 (by decide +kernel) (by decide +kernel)
theorem wm_Lw_35 : Cond.methodLink RLw 35 yX8_crosses ∈ zw_T := zw_t7 16 (by decide +kernel) (by decide +kernel)
theorem wm_Lw_36 : Cond.methodLink RLw 36 yX7_likes ∈ zw_T := zw_t3 218 (by decide +kernel) (by decide +kernel)
theorem wm_Lw_39 : Cond.methodLink RLw 39 yX8_likes ∈ zw_T := zw_t7 24 (by decide +kernel) (by decide +kernel)
theorem wm_Lw_40 : Cond.methodLink RLw 40 yX7_engage ∈ zw_T := zw_t3 224 (by decide +kernel) (by decide +kernel)
theorem wm_Lw_43 : Cond.methodLink RLw 43 yX8_engage ∈ zw_T := zw_t7 29 (by decide +kernel) (by decide +kernel)
theorem wm_Lw_44 : Cond.methodLink RLw 44 yX7_part ∈ zw_T := zw_t4 9 (by decide +kernel) (by decide +kernel)
theorem wm_Lw_47 : Cond.methodLink RLw 47 yX8_part ∈ zw_T := zw_t7 57 (by decide +kernel) (by decide +kernel)
theorem wm_Lw_48 : Cond.methodLink RLw 48 yX7_stroke ∈ zw_T := zw_t4 17 (by decide +kernel) (by decide +kernel)
theorem wm_Lw_51 : Cond.methodLink RLw 51 yX8_stroke ∈ zw_T := zw_t7 65 (by decide +kernel) (by decide +kernel)
theorem wm_Lw_52 : Cond.methodLink RLw 52 yX7_mark ∈ zw_T := zw_t4 29 (by decide +kernel) (by decide +kernel)
theorem wm_Lw_55 : Cond.methodLink RLw 55 yX8_mark ∈ zw_T := zw_t7 73 (by decide +kernel) (by decide +kernel)
theorem wm_Lw_56 : Cond.methodLink RLw 56 yX7_undo ∈ zw_T := zw_t4 41 (by decide +kernel) (by decide +kernel)
theorem wm_Lw_59 : Cond.methodLink RLw 59 yX8_undo ∈ zw_T := zw_t7 78 (by decide +kernel) (by decide +kernel)
theorem wm_Lw_60 : Cond.methodLink RLw 60 yX7_judge ∈ zw_T := zw_t4 55 (by decide +kernel) (by decide +kernel)
theorem wm_Lw_63 : Cond.methodLink RLw 63 yX8_judge ∈ zw_T := zw_t7 83 (by decide +kernel) (by decide +kernel)
theorem wm_Lw_64 : Cond.methodLink RLw 64 yX7_perform ∈ zw_T := zw_t4 107 (by decide +kernel) (by decide +kernel)
theorem wm_Lw_67 : Cond.methodLink RLw 67 yX8_perform ∈ zw_T := zw_t7 123 (by decide +kernel) (by decide +kernel)
theorem wm_Lw_68 : Cond.methodLink RLw 68 yX7_year ∈ zw_T := zw_t4 115 (by decide +kernel) (by decide +kernel)
theorem wm_Lw_71 : Cond.methodLink RLw 71 yX8_year ∈ zw_T := zw_t7 127 (by decide +kernel) (by decide +kernel)
theorem wm_Lw_72 : Cond.methodLink RLw 72 yX7_holds ∈ zw_T := zw_t4 129 (by decide +kernel) (by decide +kernel)
theorem wm_Lw_76 : Cond.methodLink RLw 76 yX8_holds ∈ zw_T := zw_t7 141 (by decide +kernel) (by decide +kernel)
theorem wm_Lw_77 : Cond.methodLink RLw 77 yX7_breaks ∈ zw_T := zw_t4 151 (by decide +kernel) (by decide +kernel)
theorem wm_Lw_80 : Cond.methodLink RLw 80 yX8_breaks ∈ zw_T := zw_t7 161 (by decide +kernel) (by decide +kernel)
theorem wm_Lw_81 : Cond.methodLink RLw 81 yX7_breaking ∈ zw_T := zw_t4 156 (by decide +kernel) (by decide +kernel)
theorem wm_Lw_84 : Cond.methodLink RLw 84 yX8_breaking ∈ zw_T := zw_t7 169 (by decide +kernel) (by decide +kernel)
theorem wm_Lw_85 : Cond.methodLink RLw 85 yX7_pairings ∈ zw_T := zw_t4 160 (by decide +kernel) (by decide +kernel)
theorem wm_Lw_88 : Cond.methodLink RLw 88 yX8_pairings ∈ zw_T := zw_t7 173 (by decide +kernel) (by decide +kernel)
theorem wm_Lw_89 : Cond.methodLink RLw 89 yX7_partner ∈ zw_T := zw_t4 182 (by decide +kernel) (by decide +kernel)
theorem wm_Lw_92 : Cond.methodLink RLw 92 yX8_partner ∈ zw_T := zw_t7 189 (by decide +kernel) (by decide +kernel)
theorem wm_Lw_93 : Cond.methodLink RLw 93 yX7_can ∈ zw_T := zw_t4 190 (by decide +kernel) (by decide +kernel)
theorem wm_Lw_96 : Cond.methodLink RLw 96 yX8_can ∈ zw_T := zw_t7 193 (by decide +kernel) (by decide +kernel)
theorem wm_Lw_97 : Cond.methodLink RLw 97 yX7_sure ∈ zw_T := zw_t4 194 (by decide +kernel) (by decide +kernel)
theorem wm_Lw_100 : Cond.methodLink RLw 100 yX8_sure ∈ zw_T := zw_t7 197 (by decide +kernel) (by decide +kernel)
theorem wm_Lw_101 : Cond.methodLink RLw 101 yX7_most ∈ zw_T := zw_t4 198 (by decide +kernel) (by decide +kernel)
theorem wm_Lw_104 : Cond.methodLink RLw 104 yX8_most ∈ zw_T := zw_t7 201 (by decide +kernel) (by decide +kernel)
theorem wm_Lw_105 : Cond.methodLink RLw 105 yX7_triangle ∈ zw_T := zw_t4 211 (by decide +kernel) (by decide +kernel)
theorem wm_Lw_108 : Cond.methodLink RLw 108 yX8_triangle ∈ zw_T := zw_t7 205 (by decide +kernel) (by decide +kernel)
theorem wm_Lw_109 : Cond.methodLink RLw 109 yX7_monogram ∈ zw_T := zw_t4 219 (by decide +kernel) (by decide +kernel)
theorem wm_Lw_112 : Cond.methodLink RLw 112 yX8_monogram ∈ zw_T := zw_t7 213 (by decide +kernel) (by decide +kernel)
theorem wm_Lw_113 : Cond.methodLink RLw 113 yX7_fits ∈ zw_T := zw_t5 10 (by decide +kernel) (by decide +kernel)
theorem wm_Lw_116 : Cond.methodLink RLw 116 yX8_fits ∈ zw_T := zw_t7 222 (by decide +kernel) (by decide +kernel)
theorem wm_Lw_117 : Cond.methodLink RLw 117 yX7_largest ∈ zw_T := zw_t5 18 (by decide +kernel) (by decide +kernel)
theorem wm_Lw_120 : Cond.methodLink RLw 120 yX8_largest ∈ zw_T := zw_t7 230 (by decide +kernel) (by decide +kernel)
theorem wm_Lw_121 : Cond.methodLink RLw 121 yX7_misfits ∈ zw_T := zw_t5 22 (by decide +kernel) (by decide +kernel)
theorem wm_Lw_124 : Cond.methodLink RLw 124 yX8_misfits ∈ zw_T := zw_t7 238 (by decide +kernel) (by decide +kernel)
theorem wm_Lw_125 : Cond.methodLink RLw 125 yX7_change ∈ zw_T := zw_t5 31 (by decide +kernel) (by decide +kernel)
theorem wm_Lw_129 : Cond.methodLink RLw 129 yX8_change ∈ zw_T := zw_t8 6 (by decide +kernel) (by decide +kernel)
theorem wm_Lw_130 : Cond.methodLink RLw 130 yX7_blot ∈ zw_T := zw_t5 39 (by decide +kernel) (by decide +kernel)
theorem wm_Lw_133 : Cond.methodLink RLw 133 yX8_blot ∈ zw_T := zw_t8 10 (by decide +kernel) (by decide +kernel)
theorem wm_Lw_134 : Cond.methodLink RLw 134 yX7_likely ∈ zw_T := zw_t5 54 (by decide +kernel) (by decide +kernel)
theorem wm_Lw_137 : Cond.methodLink RLw 137 yX8_likely ∈ zw_T := zw_t8 25 (by decide +kernel) (by decide +kernel)
theorem wm_Lw_138 : Cond.methodLink RLw 138 yX7_look ∈ zw_T := zw_t5 65 (by decide +kernel) (by decide +kernel)
theorem wm_Lw_141 : Cond.methodLink RLw 141 yX8_look ∈ zw_T := zw_t8 39 (by decide +kernel) (by decide +kernel)
theorem wm_Lw_142 : Cond.methodLink RLw 142 yX7_marks ∈ zw_T := zw_t5 70 (by decide +kernel) (by decide +kernel)
theorem wm_Lw_145 : Cond.methodLink RLw 145 yX8_marks ∈ zw_T := zw_t8 43 (by decide +kernel) (by decide +kernel)
theorem wm_Lw_146 : Cond.methodLink RLw 146 yX7_ask ∈ zw_T := zw_t5 84 (by decide +kernel) (by decide +kernel)
theorem wm_Lw_149 : Cond.methodLink RLw 149 yX8_ask ∈ zw_T := zw_t8 56 (by decide +kernel) (by decide +kernel)
theorem wm_Lw_150 : Cond.methodLink RLw 150 yX7_wins ∈ zw_T := zw_t5 92 (by decide +kernel) (by decide +kernel)
theorem wm_Lw_153 : Cond.methodLink RLw 153 yX8_wins ∈ zw_T := zw_t8 64 (by decide +kernel) (by decide +kernel)
theorem wm_Lw_154 : Cond.methodLink RLw 154 yX7_best ∈ zw_T := zw_t5 106 (by decide +kernel) (by decide +kernel)
theorem wm_Lw_157 : Cond.methodLink RLw 157 yX8_best ∈ zw_T := zw_t8 72 (by decide +kernel) (by decide +kernel)
theorem wm_Lw_158 : Cond.methodLink RLw 158 yX7_lasts ∈ zw_T := zw_t5 110 (by decide +kernel) (by decide +kernel)
theorem wm_Lw_161 : Cond.methodLink RLw 161 yX8_lasts ∈ zw_T := zw_t8 76 (by decide +kernel) (by decide +kernel)
theorem wm_Lw_162 : Cond.methodLink RLw 162 yX7_chance ∈ zw_T := zw_t5 114 (by decide +kernel) (by decide +kernel)
theorem wm_Lw_165 : Cond.methodLink RLw 165 yX8_chance ∈ zw_T := zw_t8 80 (by decide +kernel) (by decide +kernel)
theorem wm_Lw_166 : Cond.methodLink RLw 166 yX7_likeliest ∈ zw_T := zw_t5 132 (by decide +kernel) (by decide +kernel)
theorem wm_Lw_169 : Cond.methodLink RLw 169 yX8_likeliest ∈ zw_T := zw_t8 96 (by decide +kernel) (by decide +kernel)
theorem wm_Lw_170 : Cond.methodLink RLw 170 yX7_numbers ∈ zw_T := zw_t5 136 (by decide +kernel) (by decide +kernel)
theorem wm_Lw_173 : Cond.methodLink RLw 173 yX8_numbers ∈ zw_T := zw_t8 100 (by decide +kernel) (by decide +kernel)
theorem wm_Lw_176 : Cond.methodLink RLw 176 yX7_write ∈ zw_T := zw_t5 144 (by decide +kernel) (by decide +kernel)
theorem wm_Lw_180 : Cond.methodLink RLw 180 yX8_write ∈ zw_T := zw_t8 104 (by decide +kernel) (by decide +kernel)
theorem wm_Lw_181 : Cond.methodLink RLw 181 yX7_lists ∈ zw_T := zw_t5 159 (by decide +kernel) (by decide +kernel)
theorem wm_Lw_184 : Cond.methodLink RLw 184 yX8_lists ∈ zw_T := zw_t8 112 (by decide +kernel) (by decide +kernel)
theorem wm_Lw_185 : Cond.methodLink RLw 185 yX7_image ∈ zw_T := zw_t5 163 (by decide +kernel) (by decide +kernel)
theorem wm_Lw_188 : Cond.methodLink RLw 188 yX8_image ∈ zw_T := zw_t8 116 (by decide +kernel) (by decide +kernel)
theorem wm_Lw_189 : Cond.methodLink RLw 189 yX7_restore ∈ zw_T := zw_t5 167 (by decide +kernel) (by decide +kernel)
theorem wm_Lw_192 : Cond.methodLink RLw 192 yX8_restore ∈ zw_T := zw_t8 120 (by decide +kernel) (by decide +kernel)
theorem wm_Lw_193 : Cond.methodLink RLw 193 yX7_count ∈ zw_T := zw_t5 171 (by decide +kernel) (by decide +kernel)
theorem wm_Lw_196 : Cond.methodLink RLw 196 yX8_count ∈ zw_T := zw_t8 124 (by decide +kernel) (by decide +kernel)
theorem wn_Lw_174 : Cond.constantLong RLw 174 (4294967295) ∈ zw_T := zw_t8 128 (by decide +kernel) (by decide +kernel)
theorem zi_i_6 : Int32.ofInt 6 = (nI 6) := by decide
