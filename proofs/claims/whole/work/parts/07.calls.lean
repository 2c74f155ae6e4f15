abbrev zG : Type := Launch × va_G × (Nat → Nat) × (Nat → ClassId) × (Nat → Nat)
abbrev zy_a (Y : zG) : Nat → Nat := Y.2.2.1
abbrev zy_t (Y : zG) : Nat → Nat := Y.2.2.2.2
abbrev zx_Y (X : zX) : zG := (zx_l X, zx_D X, zx_ad X, zx_cy X, zx_tv X)
/-- which cells a method may change: the world's, and new ones -/
def zA (ad : Nat → Nat) (sz : Nat) : Nat → Prop := fun q => (∃ k, k < 100 ∧ q = ad k) ∨ sz ≤ q
def zp_c (Y : zG) (sz : Nat) (s : zS) (U : State) : Prop := U.heap.size = sz ∧ va_P Y.2.1 zs_cls (zk_w Y.2.2.2.1 Y.2.2.1 s) U.heap ∧ va_K Y.2.1 zs_cls (zs_tys Y.2.2.2.1) U ∧ va_D (zA Y.2.2.1 sz) (zk_w Y.2.2.2.1 Y.2.2.1 s) ∧ zt_ok Y.2.2.2.2 (zA Y.2.2.1 sz) U U.heap
def zq_c (Y : zG) (A : Nat → Prop) (v : Option Value) (s : zS) : Array Value → State → Outcome → State → Prop := fun _ st oc t => (oc = .returned v ∧ va_P Y.2.1 zs_cls (zk_w Y.2.2.2.1 Y.2.2.1 s) t.heap) ∧ va_F A st t
/-- the contract: where o says something, the method answers it -/
def zM {ρ : Type} (Y : zG) (y : MethodName) (cc : ByteArray) (mL : Nat) (ret : Option FieldType) (rm : Room) (av : List Value) (s : zS) (rv : ρ → Option Value) (o : Option (ρ × zS)) : Prop :=
  ∀ rr : ρ × zS, o = some rr → ∀ sz : Nat, Met Y.1 y (.code y cc mL ret :: zw_T) rm (va_Pc av (zp_c Y sz s)) (zq_c Y (zA Y.2.2.1 sz) (rv rr.1) rr.2) 0 0 (zA Y.2.2.1 sz)
def zq {ρ : Type} (X : zX) (rv : ρ → Option Value) (rr : ρ × zS) : State → Prop := MQ (zx_below X) (zq_c (zx_Y X) (zx_A X) (rv rr.1) rr.2) (zx_args X) (zx_s X) 0 0 (zx_A X)
def zx_rt (X : zX) (ret : Option FieldType) (rm : Room) : Prop := (zx_meth X).sig.returnType = ret ∧ (zx_meth X).locks = false ∧ zx_cells X = 0 ∧ zx_slots X = 0 ∧ zx_R X = rm
theorem zd_any {A B : Nat → Prop} {cy : Nat → ClassId} {ad : Nat → Nat} {s s2 : zS} (h : va_D A (zk_w cy ad s)) (hB : ∀ k, k < 100 → B (ad k)) : va_D B (zk_w cy ad s2) := by
  have key : ∀ (z : zS) (i : Nat) (q : Nat × va_E), (zk_w cy ad z)[i]? = some q → i < 100 ∧ q.1 = ad i := by
    intro z i q hq
    rcases Nat.lt_or_ge i 100 with hl | hl
    · rw [zk_get cy ad z hl] at hq
      cases hq
      exact ⟨hl, rfl⟩
    · have : (zk_w cy ad z)[i]? = none := by simp [zk_w]; omega
      rw [this] at hq; cases hq
  refine ⟨fun i j p q hi hj e => ?_, fun i q hq => ?_⟩
  · obtain ⟨a1, a2⟩ := key s2 i p hi
    obtain ⟨b1, b2⟩ := key s2 j q hj
    exact h.1 i j _ _ (zk_get cy ad s a1) (zk_get cy ad s b1) (a2.symm.trans (e.trans b2))
  · obtain ⟨a1, a2⟩ := key s2 i q hq
    rw [a2]; exact hB i a1
theorem zd_in {A : Nat → Prop} {cy : Nat → ClassId} {ad : Nat → Nat} {s : zS} (h : va_D A (zk_w cy ad s)) {k : Nat} (hk : k < 100) : A (ad k) := h.2 k _ (zk_get cy ad s hk)
theorem zm_start {ρ : Type} {Y : zG} {y : MethodName} {cc : ByteArray} {mL : Nat} {ret : Option FieldType} {rm : Room} {av : List Value} {s : zS} {rv : ρ → Option Value} {o : Option (ρ × zS)} (hy : plainName y.cls = true) (hl : (lg_sl av).length ≤ mL)
    (body : ∀ X : zX, zx_Y X = Y → zx_rt X ret rm → zx_ok X cc y.cls mL → zV X (zq X rv) mL 0 (lv_args 0 av) [] s o) : zM Y y cc mL ret rm av s rv o := by
  intro rr hrr sz
  refine Met.ofW (cc := cc) (maxL := mL) (ret := ret) hy rfl ?_
  intro p e st m args below meth c s₁ B hml hv
  obtain ⟨rfl, hsz, hP, hK, hD, hT⟩ := hv
  subst hsz
  have hts := atoms_spec (ws := Cond.code y cc mL ret :: zw_T) B.pre
  have K := body (p, Y.1, e, (headSpec (Cond.code y cc mL ret :: zw_T) rm).room, st, m, av.toArray, below, meth, c, Y.2.1, Y.2.2.1, Y.2.2.2.1, Y.2.2.2.2, zA Y.2.2.1 st.heap.size, 0, 0) rfl ⟨B.returns, B.notSynchronized, rfl, rfl, rfl⟩
    ⟨B.exec, B.bytes, findClass_of_methodNamed B.named, hml, fun w hw => hts w (List.mem_cons_of_mem _ hw), hK, hT, fun q h => Or.inr h, Nat.zero_le _, Nat.zero_le _⟩ rr hrr st.heap []
    ((lg_sl av ++ List.replicate (mL - (lg_sl av).length) Slot.unset).toArray) (lv_entry av hl) ⟨hP, hD, va_S.rf⟩
  rw [lg_entry_eq]
  exact K
theorem zm_startJ {ρ : Type} {Y : zG} {y : MethodName} {cc : ByteArray} {mL : Nat} {ret : Option FieldType} {rm : Room} {av : List Value} {s : zS} {rv : ρ → Option Value} {o : Option (ρ × zS)} (hy : plainFor y = true) (hl : (lg_sl av).length ≤ mL)
    (body : ∀ X : zX, zx_Y X = Y → zx_rt X ret rm → zx_ok X cc y.cls mL → zV X (zq X rv) mL 0 (lv_args 0 av) [] s o) : zM Y y cc mL ret rm av s rv o := by
  intro rr hrr sz
  refine va_MetF (cc := cc) (maxL := mL) (ret := ret) hy rfl ?_
  intro p e st m args below meth c s₁ B hml hv
  obtain ⟨rfl, hsz, hP, hK, hD, hT⟩ := hv
  subst hsz
  have hts := atoms_spec (ws := Cond.code y cc mL ret :: zw_T) B.pre
  have K := body (p, Y.1, e, (headSpec (Cond.code y cc mL ret :: zw_T) rm).room, st, m, av.toArray, below, meth, c, Y.2.1, Y.2.2.1, Y.2.2.2.1, Y.2.2.2.2, zA Y.2.2.1 st.heap.size, 0, 0) rfl ⟨B.returns, B.notSynchronized, rfl, rfl, rfl⟩
    ⟨B.exec, B.bytes, findClass_of_methodNamed B.named, hml, fun w hw => hts w (List.mem_cons_of_mem _ hw), hK, hT, fun q h => Or.inr h, Nat.zero_le _, Nat.zero_le _⟩ rr hrr st.heap []
    ((lg_sl av ++ List.replicate (mL - (lg_sl av).length) Slot.unset).toArray) (lv_entry av hl) ⟨hP, hD, va_S.rf⟩
  rw [lg_entry_eq]
  exact K
/-- what a call answers, and the state behind it -/
def zbd {α β : Type} (o : Option (α × zS)) (f : α → zS → Option β) : Option β := match o with
  | none => none
  | some a => f a.1 a.2
abbrev zR (f l : Nat) : Room := { frames := f, cells := 0, slots := 0, locals := l }
abbrev zrI : Int32 → Option Value := fun r => some (.int r)
abbrev zrJ : Int64 → Option Value := fun r => some (.long r)
abbrev zrV : Unit → Option Value := fun _ => none
/-- how often a loop may turn, how deep a method may call itself -/
def zFU : Nat := 5000
def zDP : Nat := 64
section ZC
variable {ρ : Type} {X : zX} {Q : ρ × zS → State → Prop} {cc : ByteArray} {own : String} {nL pc : Nat} {lv lv' : List (Nat × Value)} {st rest : List Value} {s : zS} {o o1 o2 : Option (ρ × zS)} {rm : Room}
theorem zv_ireti {v : Int32} (hX : zx_ok X cc own nL) (hT : zx_rt X (some .int) rm) (d : decode cc pc = .ok (.ireturn, 1)) : zV X (zq X (fun r : Int32 => some (.int r))) nL pc lv [.int v] s (some (v, s)) := by
  intro rr hr H locs ls hl hw
  cases hr
  have K := W.iret (p := zx_p X) (l := zx_l X) (e := zx_e X) (R := zx_R X) (s := zx_s X) (m := zx_m X) (args := zx_args X) (below := zx_below X) (meth := zx_meth X) (c := zx_c X) (cells := zx_cells X) (slots := zx_slots X) (v := v) (Qc := zq_c (zx_Y X) (zx_A X) (some (.int v)) s) (free := zx_A X) (ls := ls) hX.1 hX.2.1 hT.1 (fun t ht hW => ⟨⟨rfl, by rw [ht]; exact hw.1⟩, hw.2.2.F ht⟩) hw.2.2.2.2 d hT.2.1
  unfold zq zx_W
  rw [hT.2.2.1, hT.2.2.2.1] at K ⊢
  exact K
theorem zv_iretz {v : Int32} {ty : FieldType} (hX : zx_ok X cc own nL) (hT : zx_rt X (some ty) rm) (hn : narrow ty (.int v) = .int v) (d : decode cc pc = .ok (.ireturn, 1)) : zV X (zq X (fun r : Int32 => some (.int r))) nL pc lv [.int v] s (some (v, s)) := by
  intro rr hr H locs ls hl hw
  cases hr
  have K := W.zret (p := zx_p X) (l := zx_l X) (e := zx_e X) (R := zx_R X) (s := zx_s X) (m := zx_m X) (args := zx_args X) (below := zx_below X) (meth := zx_meth X) (c := zx_c X) (cells := zx_cells X) (slots := zx_slots X) (v := v) (Qc := zq_c (zx_Y X) (zx_A X) (some (.int v)) s) (free := zx_A X) (ls := ls) hX.1 hX.2.1 hT.1 hn (fun t ht hW => ⟨⟨rfl, by rw [ht]; exact hw.1⟩, hw.2.2.F ht⟩) hw.2.2.2.2 d hT.2.1
  unfold zq zx_W
  rw [hT.2.2.1, hT.2.2.2.1] at K ⊢
  exact K
theorem zv_iretzB {v : Int32} (hX : zx_ok X cc own nL) (hT : zx_rt X (some .boolean) rm) (d : decode cc pc = .ok (.ireturn, 1)) : zV X (zq X (fun r : Int32 => some (.int r))) nL pc lv [.int v] s (if v = 0 ∨ v = 1 then some (v, s) else none) := by
  refine zv_ite (fun h => zv_iretz hX hT ?_ d) (fun _ => zv_none)
  rcases h with h | h <;> subst h <;> decide
theorem zv_lret {v : Int64} (hX : zx_ok X cc own nL) (hT : zx_rt X (some .long) rm) (d : decode cc pc = .ok (.lreturn, 1)) : zV X (zq X (fun r : Int64 => some (.long r))) nL pc lv [.long v] s (some (v, s)) := by
  intro rr hr H locs ls hl hw
  cases hr
  have K := W.lret (p := zx_p X) (l := zx_l X) (e := zx_e X) (R := zx_R X) (s := zx_s X) (m := zx_m X) (args := zx_args X) (below := zx_below X) (meth := zx_meth X) (c := zx_c X) (cells := zx_cells X) (slots := zx_slots X) (v := v) (Qc := zq_c (zx_Y X) (zx_A X) (some (.long v)) s) (free := zx_A X) (ls := ls) hX.1 hX.2.1 hT.1 (fun t ht hW => ⟨⟨rfl, by rw [ht]; exact hw.1⟩, hw.2.2.F ht⟩) hw.2.2.2.2 d hT.2.1
  unfold zq zx_W
  rw [hT.2.2.1, hT.2.2.2.1] at K ⊢
  exact K
theorem zv_vret (hX : zx_ok X cc own nL) (hT : zx_rt X none rm) (d : decode cc pc = .ok (.return_, 1)) : zV X (zq X (fun _ : Unit => none)) nL pc lv [] s (some ((), s)) := by
  intro rr hr H locs ls hl hw
  cases hr
  have K := W.vret (p := zx_p X) (l := zx_l X) (e := zx_e X) (R := zx_R X) (s := zx_s X) (m := zx_m X) (args := zx_args X) (below := zx_below X) (meth := zx_meth X) (c := zx_c X) (cells := zx_cells X) (slots := zx_slots X) (Qc := zq_c (zx_Y X) (zx_A X) none s) (free := zx_A X) (ls := ls) hX.1 hX.2.1 hT.1 (fun t ht hW => ⟨⟨rfl, by rw [ht]; exact hw.1⟩, hw.2.2.F ht⟩) hw.2.2.2.2 d hT.2.1
  unfold zq zx_W
  rw [hT.2.2.1, hT.2.2.2.1] at K ⊢
  exact K
/-- behind a call -/
theorem zx_back {H : Heap} {locs : List Loc} {Q : State → Prop} {ls : Array Slot} {a : Array Value} {v : Option Value} {s2 : zS} (hX : zx_ok X cc own nL) (hw : zx_w X s H locs)
    (hr : va_Run (zx_p X) (zx_l X) (zx_e X) (zx_R X) (zx_s X) (zx_m X) (zx_args X) (zx_below X) (zx_meth X) (zx_c X) H locs (zx_cells X) (zx_slots X) 0 0 (F0 (zx_m X) pc ls st) rest (zq_c (zx_Y X) (zA (zx_ad X) H.size) v s2 a) (zA (zx_ad X) H.size))
    (kk : ∀ (H1 : Heap) (locs1 : List Loc), zx_w X s2 H1 locs1 → zx_W X H1 locs1 Q (F0 (zx_m X) (pc + 3) ls (v.toList ++ rest))) : zx_W X H locs Q (F0 (zx_m X) pc ls st) := by
  intro T hT X0
  obtain ⟨v', st₀, t, T', L, h0, X', hL, e1, e2, ⟨⟨hv, hp⟩, hz, hk⟩, sts⟩ := hr T hT X0
  cases hv
  have hAA : ∀ q, zA (zx_ad X) H.size q → zx_A X q := by
    intro q hq
    rcases hq with ⟨k, hk1, rfl⟩ | hq
    · exact zd_in hw.2.1 hk1
    · exact hX.2.2.2.2.2.2.2.1 q (Nat.le_trans hw.2.2.1 hq)
  rw [h0] at hz hk
  obtain ⟨t2, a1, b1⟩ := kk T'.heap (locs ++ L) ⟨by rw [e1]; exact hp, zd_any hw.2.1 (fun k hk1 => zd_in hw.2.1 hk1), ⟨Nat.le_trans hw.2.2.1 (by rw [e1]; exact hz), fun q h1 h2 => by rw [e1, hk q (Nat.lt_of_lt_of_le h1 hw.2.2.1) (fun z => h2 (hAA q z))]; exact hw.2.2.2.1 q h1 h2, fun q hq => by
      rcases List.mem_append.mp hq with h | h
      · exact hw.2.2.2.2 q h
      · exact hAA _ (hL q h)⟩⟩ T' rfl X'
  exact ⟨t2, sts t2 a1, b1⟩
/-- what a call finds at its start -/
theorem zx_pre {H : Heap} {locs : List Loc} (hX : zx_ok X cc own nL) (hw : zx_w X s H locs) {U : State} (hU : U.heap = H) (hW : (zx_s X).WarmedH U.vm) : zp_c (zx_Y X) H.size s U := by
  refine ⟨by rw [hU], by rw [hU]; exact hw.1, va_K.moved hW.alike hX.2.2.2.2.2.1, zd_any hw.2.1 (fun k hk => Or.inl ⟨k, hk, rfl⟩), ?_⟩
  rw [hU]
  refine hX.2.2.2.2.2.2.1.move hw.2.2.2.1 (fun q hq => ?_) hW
  rcases hq with ⟨k, hk1, rfl⟩ | hq
  · exact zd_in hw.2.1 hk1
  · exact hX.2.2.2.2.2.2.2.1 q (Nat.le_trans hw.2.2.1 hq)
theorem zx_blind (Y : zG) (sz : Nat) (s : zS) (av : List Value) : FrameBlind (va_Pc av (zp_c Y sz s)) := by
  intro a U g mk q
  obtain ⟨q0, q1, q2, q3, q4, q5⟩ := q
  exact ⟨q0, q1, q2, va_K.moved (u := U) (U := U.calling g mk a) (Vm.Alike.refl U.vm) q3, q4, q5.same rfl⟩
theorem zc_call {y : MethodName} {bb : ByteArray} {mB n idx : Nat} {ret : Option FieldType} {rB rA : Room} (hX : zx_ok X cc own nL) (hR : zx_R X = rA) (hb : zc_b y bb mB ret n) (hl : Cond.methodLink own idx y ∈ zw_T) (hr : rB.cells = 0 ∧ rB.slots = 0 ∧ rB.frames + 1 ≤ rA.frames ∧ 8 + (mB + 11) + rB.locals ≤ rA.locals) :
    CallB (zx_R X) (zx_s X) (zx_args X) own idx y bb mB ret (Cond.code y bb mB ret :: zw_T) rB 0 0 n := by
  refine ⟨hr.1, hr.2.1, by rw [hR]; exact hr.2.2.1, by rw [hR]; exact hr.2.2.2, fun w hw a' U hW => ?_, List.mem_cons_self, hX.2.2.2.2.1 _ hb.2.1, hX.2.2.2.2.1 _ hb.1, hb.2.2.1, fun sig h => ?_, hX.2.2.2.2.1 _ hl⟩
  · have hw2 : w ∈ zw_T := by
      rcases List.mem_cons.mp hw with e | e
      · rw [e]; exact hb.2.1
      · exact e
    exact word_at hW (zw_good (c := w) hw2).2 (hX.2.2.2.2.1 w hw2)
  · have h2 := hb.2.2.2
    rw [h] at h2
    exact (Option.some.inj h2).symm
theorem zv_callV {ρ2 : Type} {rv : ρ2 → Option Value} {o' : Option (ρ2 × zS)} {f : ρ2 → zS → Option (ρ × zS)} (As : List Value) {k c n idx mB : Nat} {y : MethodName} {bb : ByteArray} {ret : Option FieldType} {rB rA : Room} (hX : zx_ok X cc own nL) (hR : zx_R X = rA) (hM : zM (zx_Y X) y bb mB ret rB (.ref (zx_ad X k) :: As) s rv o') (hy : zc_v y bb mB ret n c) (hc9 : c < 9) (hk : zk_d k = 4 + c) (hl : Cond.methodLink own idx y ∈ zw_T) (hn : As.length = n)
    (hr : rB.cells = 0 ∧ rB.slots = 0 ∧ rB.frames + 1 ≤ rA.frames ∧ 8 + (mB + 11) + rB.locals ≤ rA.locals) (hst : st = As.reverse ++ .ref (zx_ad X k) :: rest) (hc : (rest.map fun v => v.category).sum ≤ 8) (d : decode cc pc = .ok (.invokevirtual idx, 3)) (kk : ∀ (r : ρ2) (s2 : zS), zV X Q nL (pc + 3) lv ((rv r).toList ++ rest) s2 (f r s2)) : zV X Q nL pc lv st s (zbd o' f) := by
  intro rr hrr H locs ls hv hw
  cases o' with
  | none => cases hrr
  | some rb =>
    have hM' := hM rb rfl H.size
    have hlt : k < 100 := zk_lt hk (by omega)
    obtain ⟨hb, h1, h2, T, N, h3⟩ := hy
    refine zx_back hX hw (va_runV (As := As) (rest := rest) (C := y.cls) ⟨hX.1, hX.2.1, hX.2.2.2.1, hX.2.2.1, hX.2.2.2.2.1⟩ hM' ⟨zc_call hX hR hb hl hr, hX.2.2.2.2.1 _ h1, hX.2.2.2.2.1 _ h2⟩ ⟨zx_blind _ _ _ _, va_recv hX.2.2.2.2.2.1 hw.1 (ci := c) (q0 := k) h3 ((zk_get _ _ _ hlt).trans (by rw [zk_eO _ _ _ hk])), fun U hU hW => ⟨rfl, zx_pre hX hw hU hW⟩⟩ rfl hn hv.1 hst (lv_room hc) d ⟨hX.2.2.2.2.2.2.2.2.1, hX.2.2.2.2.2.2.2.2.2⟩) (fun H1 locs1 hw1 => ?_)
    exact kk rb.1 rb.2 rr hrr H1 locs1 ls hv hw1
theorem zv_callT {ρ2 : Type} {rv : ρ2 → Option Value} {o' : Option (ρ2 × zS)} {f : ρ2 → zS → Option (ρ × zS)} (As : List Value) {i n idx mB : Nat} {y : MethodName} {bb : ByteArray} {ret : Option FieldType} {rB rA : Room} (hX : zx_ok X cc own nL) (hR : zx_R X = rA) (hi : i < 3) (hM : zM (zx_Y X) y bb mB ret rB (.ref (zx_tv X (10 + i)) :: As) s rv o') (hy : zc_b y bb mB ret n) (hy1 : Cond.instanceMethod y ∈ zw_T) (hy2 : Cond.selects y.cls y y ∈ zw_T) (hy3 : y.cls = "java/lang/String") (hl : Cond.methodLink own idx y ∈ zw_T) (hn : As.length = n)
    (hr : rB.cells = 0 ∧ rB.slots = 0 ∧ rB.frames + 1 ≤ rA.frames ∧ 8 + (mB + 11) + rB.locals ≤ rA.locals) (hst : st = As.reverse ++ .ref (zx_tv X (10 + i)) :: rest) (hc : (rest.map fun v => v.category).sum ≤ 8) (d : decode cc pc = .ok (.invokevirtual idx, 3)) (kk : ∀ (r : ρ2) (s2 : zS), zV X Q nL (pc + 3) lv ((rv r).toList ++ rest) s2 (f r s2)) : zV X Q nL pc lv st s (zbd o' f) := by
  intro rr hrr H locs ls hv hw
  cases o' with
  | none => cases hrr
  | some rb =>
    have hM' := hM rb rfl H.size
    obtain ⟨cell, g1, g2, g3, g4⟩ := ((hX.2.2.2.2.2.2.1.2.2.2.1.1 i hi).1).kept hw.2.2.2.1
    refine zx_back hX hw (va_runV (As := As) (rest := rest) (C := y.cls) ⟨hX.1, hX.2.1, hX.2.2.2.1, hX.2.2.1, hX.2.2.2.2.1⟩ hM' ⟨zc_call hX hR hy hl hr, hX.2.2.2.2.1 _ hy1, hX.2.2.2.2.1 _ hy2⟩ ⟨zx_blind _ _ _ _, ⟨cell, g1, g2, by rw [hy3]; exact g3⟩, fun U hU hW => ⟨rfl, zx_pre hX hw hU hW⟩⟩ rfl hn hv.1 hst (lv_room hc) d ⟨hX.2.2.2.2.2.2.2.2.1, hX.2.2.2.2.2.2.2.2.2⟩) (fun H1 locs1 hw1 => ?_)
    exact kk rb.1 rb.2 rr hrr H1 locs1 ls hv hw1
theorem zv_callS {ρ2 : Type} {rv : ρ2 → Option Value} {o' : Option (ρ2 × zS)} {f : ρ2 → zS → Option (ρ × zS)} (As : List Value) {n idx mB : Nat} {y : MethodName} {bb : ByteArray} {ret : Option FieldType} {rB rA : Room} (hX : zx_ok X cc own nL) (hR : zx_R X = rA) (hM : zM (zx_Y X) y bb mB ret rB As s rv o') (hy : zc_s y bb mB ret n) (hl : Cond.methodLink own idx y ∈ zw_T) (hn : As.length = n)
    (hr : rB.cells = 0 ∧ rB.slots = 0 ∧ rB.frames + 1 ≤ rA.frames ∧ 8 + (mB + 11) + rB.locals ≤ rA.locals) (hst : st = As.reverse ++ rest) (hc : (rest.map fun v => v.category).sum ≤ 8) (d : decode cc pc = .ok (.invokestatic idx, 3)) (kk : ∀ (r : ρ2) (s2 : zS), zV X Q nL (pc + 3) lv ((rv r).toList ++ rest) s2 (f r s2)) : zV X Q nL pc lv st s (zbd o' f) := by
  intro rr hrr H locs ls hv hw
  cases o' with
  | none => cases hrr
  | some rb =>
    have hM' := hM rb rfl H.size
    obtain ⟨hb, h1⟩ := hy
    refine zx_back hX hw (va_runS (As := As) (rest := rest) ⟨hX.1, hX.2.1, hX.2.2.2.1, hX.2.2.1, hX.2.2.2.2.1⟩ hM' ⟨zc_call hX hR hb hl hr, hX.2.2.2.2.1 _ h1⟩ ⟨zx_blind _ _ _ _, fun U hU hW => ⟨rfl, zx_pre hX hw hU hW⟩⟩ rfl hn hv.1 hst (lv_room hc) d ⟨hX.2.2.2.2.2.2.2.2.1, hX.2.2.2.2.2.2.2.2.2⟩) (fun H1 locs1 hw1 => ?_)
    exact kk rb.1 rb.2 rr hrr H1 locs1 ls hv hw1
theorem zv_cVI {o' : Option (Int32 × zS)} {f : Int32 → zS → Option (ρ × zS)} (As : List Value) {k c n idx mB fA lA fB lB : Nat} {y : MethodName} {bb : ByteArray} {ret : Option FieldType} (hX : zx_ok X cc own nL) (hR : zx_R X = zR fA lA) (hM : zM (zx_Y X) y bb mB ret (zR fB lB) (.ref (zx_ad X k) :: As) s zrI o') (hy : zc_v y bb mB ret n c) (hc9 : c < 9) (hk : zk_d k = 4 + c) (hl : Cond.methodLink own idx y ∈ zw_T) (hn : As.length = n) (h1 : fB + 1 ≤ fA) (h2 : 8 + (mB + 11) + lB ≤ lA) (hst : st = As.reverse ++ .ref (zx_ad X k) :: rest) (hc : (rest.map fun v => v.category).sum ≤ 8) (d : decode cc pc = .ok (.invokevirtual idx, 3)) (kk : ∀ (r : Int32) (s2 : zS), zV X Q nL (pc + 3) lv (.int r :: rest) s2 (f r s2)) : zV X Q nL pc lv st s (zbd o' f) := zv_callV As hX hR hM hy hc9 hk hl hn ⟨rfl, rfl, h1, h2⟩ hst hc d kk
theorem zv_cSI {o' : Option (Int32 × zS)} {f : Int32 → zS → Option (ρ × zS)} (As : List Value) {n idx mB fA lA fB lB : Nat} {y : MethodName} {bb : ByteArray} {ret : Option FieldType} (hX : zx_ok X cc own nL) (hR : zx_R X = zR fA lA) (hM : zM (zx_Y X) y bb mB ret (zR fB lB) As s zrI o') (hy : zc_s y bb mB ret n) (hl : Cond.methodLink own idx y ∈ zw_T) (hn : As.length = n) (h1 : fB + 1 ≤ fA) (h2 : 8 + (mB + 11) + lB ≤ lA) (hst : st = As.reverse ++ rest) (hc : (rest.map fun v => v.category).sum ≤ 8) (d : decode cc pc = .ok (.invokestatic idx, 3)) (kk : ∀ (r : Int32) (s2 : zS), zV X Q nL (pc + 3) lv (.int r :: rest) s2 (f r s2)) : zV X Q nL pc lv st s (zbd o' f) := zv_callS As hX hR hM hy hl hn ⟨rfl, rfl, h1, h2⟩ hst hc d kk
theorem zv_cVJ {o' : Option (Int64 × zS)} {f : Int64 → zS → Option (ρ × zS)} (As : List Value) {k c n idx mB fA lA fB lB : Nat} {y : MethodName} {bb : ByteArray} {ret : Option FieldType} (hX : zx_ok X cc own nL) (hR : zx_R X = zR fA lA) (hM : zM (zx_Y X) y bb mB ret (zR fB lB) (.ref (zx_ad X k) :: As) s zrJ o') (hy : zc_v y bb mB ret n c) (hc9 : c < 9) (hk : zk_d k = 4 + c) (hl : Cond.methodLink own idx y ∈ zw_T) (hn : As.length = n) (h1 : fB + 1 ≤ fA) (h2 : 8 + (mB + 11) + lB ≤ lA) (hst : st = As.reverse ++ .ref (zx_ad X k) :: rest) (hc : (rest.map fun v => v.category).sum ≤ 8) (d : decode cc pc = .ok (.invokevirtual idx, 3)) (kk : ∀ (r : Int64) (s2 : zS), zV X Q nL (pc + 3) lv (.long r :: rest) s2 (f r s2)) : zV X Q nL pc lv st s (zbd o' f) := zv_callV As hX hR hM hy hc9 hk hl hn ⟨rfl, rfl, h1, h2⟩ hst hc d kk
theorem zv_cSJ {o' : Option (Int64 × zS)} {f : Int64 → zS → Option (ρ × zS)} (As : List Value) {n idx mB fA lA fB lB : Nat} {y : MethodName} {bb : ByteArray} {ret : Option FieldType} (hX : zx_ok X cc own nL) (hR : zx_R X = zR fA lA) (hM : zM (zx_Y X) y bb mB ret (zR fB lB) As s zrJ o') (hy : zc_s y bb mB ret n) (hl : Cond.methodLink own idx y ∈ zw_T) (hn : As.length = n) (h1 : fB + 1 ≤ fA) (h2 : 8 + (mB + 11) + lB ≤ lA) (hst : st = As.reverse ++ rest) (hc : (rest.map fun v => v.category).sum ≤ 8) (d : decode cc pc = .ok (.invokestatic idx, 3)) (kk : ∀ (r : Int64) (s2 : zS), zV X Q nL (pc + 3) lv (.long r :: rest) s2 (f r s2)) : zV X Q nL pc lv st s (zbd o' f) := zv_callS As hX hR hM hy hl hn ⟨rfl, rfl, h1, h2⟩ hst hc d kk
theorem zv_cVV {o' : Option (Unit × zS)} {f : Unit → zS → Option (ρ × zS)} (As : List Value) {k c n idx mB fA lA fB lB : Nat} {y : MethodName} {bb : ByteArray} {ret : Option FieldType} (hX : zx_ok X cc own nL) (hR : zx_R X = zR fA lA) (hM : zM (zx_Y X) y bb mB ret (zR fB lB) (.ref (zx_ad X k) :: As) s zrV o') (hy : zc_v y bb mB ret n c) (hc9 : c < 9) (hk : zk_d k = 4 + c) (hl : Cond.methodLink own idx y ∈ zw_T) (hn : As.length = n) (h1 : fB + 1 ≤ fA) (h2 : 8 + (mB + 11) + lB ≤ lA) (hst : st = As.reverse ++ .ref (zx_ad X k) :: rest) (hc : (rest.map fun v => v.category).sum ≤ 8) (d : decode cc pc = .ok (.invokevirtual idx, 3)) (kk : ∀ (r : Unit) (s2 : zS), zV X Q nL (pc + 3) lv (rest) s2 (f r s2)) : zV X Q nL pc lv st s (zbd o' f) := zv_callV As hX hR hM hy hc9 hk hl hn ⟨rfl, rfl, h1, h2⟩ hst hc d kk
theorem zv_cSV {o' : Option (Unit × zS)} {f : Unit → zS → Option (ρ × zS)} (As : List Value) {n idx mB fA lA fB lB : Nat} {y : MethodName} {bb : ByteArray} {ret : Option FieldType} (hX : zx_ok X cc own nL) (hR : zx_R X = zR fA lA) (hM : zM (zx_Y X) y bb mB ret (zR fB lB) As s zrV o') (hy : zc_s y bb mB ret n) (hl : Cond.methodLink own idx y ∈ zw_T) (hn : As.length = n) (h1 : fB + 1 ≤ fA) (h2 : 8 + (mB + 11) + lB ≤ lA) (hst : st = As.reverse ++ rest) (hc : (rest.map fun v => v.category).sum ≤ 8) (d : decode cc pc = .ok (.invokestatic idx, 3)) (kk : ∀ (r : Unit) (s2 : zS), zV X Q nL (pc + 3) lv (rest) s2 (f r s2)) : zV X Q nL pc lv st s (zbd o' f) := zv_callS As hX hR hM hy hl hn ⟨rfl, rfl, h1, h2⟩ hst hc d kk
theorem zv_cTI {o' : Option (Int32 × zS)} {f : Int32 → zS → Option (ρ × zS)} (As : List Value) {i n idx mB fA lA fB lB : Nat} {y : MethodName} {bb : ByteArray} {ret : Option FieldType} (hX : zx_ok X cc own nL) (hR : zx_R X = zR fA lA) (hi : i < 3) (hM : zM (zx_Y X) y bb mB ret (zR fB lB) (.ref (zx_tv X (10 + i)) :: As) s zrI o') (hy : zc_b y bb mB ret n) (hy1 : Cond.instanceMethod y ∈ zw_T) (hy2 : Cond.selects y.cls y y ∈ zw_T) (hy3 : y.cls = "java/lang/String") (hl : Cond.methodLink own idx y ∈ zw_T) (hn : As.length = n) (h1 : fB + 1 ≤ fA) (h2 : 8 + (mB + 11) + lB ≤ lA) (hst : st = As.reverse ++ .ref (zx_tv X (10 + i)) :: rest) (hc : (rest.map fun v => v.category).sum ≤ 8) (d : decode cc pc = .ok (.invokevirtual idx, 3)) (kk : ∀ (r : Int32) (s2 : zS), zV X Q nL (pc + 3) lv (.int r :: rest) s2 (f r s2)) : zV X Q nL pc lv st s (zbd o' f) := zv_callT As hX hR hi hM hy hy1 hy2 hy3 hl hn ⟨rfl, rfl, h1, h2⟩ hst hc d kk
theorem zv_iretcB {v : Int32} (hX : zx_ok X cc own nL) (hT : zx_rt X (some .char) rm) (d : decode cc pc = .ok (.ireturn, 1)) : zV X (zq X zrI) nL pc lv [.int v] s (if (v.toUInt32 % 65536).toInt32 = v then some (v, s) else none) := by
  refine zv_ite (fun h => zv_iretz hX hT ?_ d) (fun _ => zv_none)
  have e := pk_nc v
  rw [h] at e
  exact e
theorem zv_iretbB {v : Int32} (hX : zx_ok X cc own nL) (hT : zx_rt X (some .byte) rm) (d : decode cc pc = .ok (.ireturn, 1)) : zV X (zq X zrI) nL pc lv [.int v] s (if v.toInt8.toInt32 = v then some (v, s) else none) := by
  refine zv_ite (fun h => zv_iretz hX hT ?_ d) (fun _ => zv_none)
  have e := pk_nb v
  rw [h] at e
  exact e
/-- a switch: at one of its numbers, at none -/
theorem zv_tabI {dflt lo hi : Int} {offs : Array Int} {len : Nat} {x : Int32} {z : Int} {tgt : Nat} (hX : zx_ok X cc own nL) (d : decode cc pc = .ok (.tableswitch dflt lo hi offs, len)) (v : Int32) (hv : x = v) (h1 : ¬ v.toInt < lo) (h2 : ¬ hi < v.toInt) (ho : offs[(v.toInt - lo).toNat]? = some z) (ht : (pc : Int) + z = (tgt : Int)) (k : zV X Q nL tgt lv st s o) : zV X Q nL pc lv (.int x :: st) s o := by
  subst hv
  exact fun rr hr H locs ls hl hw => lv_tableIn hX.1 hX.2.1 d h1 h2 ho ht (k rr hr H locs ls hl hw)
theorem zv_tabO {dflt lo hi : Int} {offs : Array Int} {len : Nat} {x : Int32} {tgt : Nat} (hX : zx_ok X cc own nL) (d : decode cc pc = .ok (.tableswitch dflt lo hi offs, len)) (h : x.toInt < lo ∨ hi < x.toInt) (ht : (pc : Int) + dflt = (tgt : Int)) (k : zV X Q nL tgt lv st s o) : zV X Q nL pc lv (.int x :: st) s o := fun rr hr H locs ls hl hw => lv_tableOut hX.1 hX.2.1 d h ht (k rr hr H locs ls hl hw)
theorem zv_look {dflt z : Int} {ps : Array (Int × Int)} {len : Nat} {x : Int32} {tgt : Nat} (hX : zx_ok X cc own nL) (d : decode cc pc = .ok (.lookupswitch dflt ps, len)) (hp : (ps.toList.zip (ps.toList.drop 1)).all (fun (a, next) => a.1 < next.1) = true) (ho : Op.lookupswitch.offset ps.toList dflt x.toInt = z) (ht : (pc : Int) + z = (tgt : Int)) (k : zV X Q nL tgt lv st s o) : zV X Q nL pc lv (.int x :: st) s o := fun rr hr H locs ls hl hw => lv_lookup hX.1 hX.2.1 d hp ho ht (k rr hr H locs ls hl hw)
theorem zt_out {x : Int32} (lo n : Nat) (hn : lo + n < 2 ^ 31) (h : ∀ j, j < n → ¬ x = nI (lo + j)) : x.toInt < (lo : Int) ∨ ((lo + n : Nat) : Int) - 1 < x.toInt := by
  rcases Int.lt_or_le x.toInt (lo : Int) with q | q
  · exact Or.inl q
  · refine Or.inr ?_
    rcases Int.lt_or_le (((lo + n : Nat) : Int) - 1) x.toInt with r | r
    · exact r
    · exfalso
      have hj : (x.toInt - lo).toNat < n := by omega
      refine h _ hj (Int32.toInt_inj.mp ?_)
      rw [nI_toInt (by omega)]
      omega
end ZC

