/-- while the system is made: the world is a list of cells -/
def zu_w (X : zX) (ws : va_W) (H : Heap) (locs : List Loc) : Prop := va_P (zx_D X) zs_cls ws H ∧ va_D (zx_A X) ws ∧ va_S (zx_A X) (zx_s X).heap H locs
def zu_ok (X : zX) (cc : ByteArray) (own : String) (nL : Nat) : Prop :=
  (zx_p X).tables.exec = Jvm.exec ∧ (zx_c X).code = cc ∧ (zx_s X).vm.findClass own = some (zx_m X).cls ∧ (zx_c X).maxLocals = nL ∧ (∀ w ∈ zw_T, w.before (zx_args X) (zx_s X) = true) ∧
  va_K (zx_D X) zs_cls (zs_tys (zx_cy X)) (zx_s X) ∧ (∀ q, (zx_s X).heap.size ≤ q → zx_A X q)
def zU (X : zX) (Q : State → Prop) (nL pc : Nat) (lv : List (Nat × Value)) (st : List Value) (ws : va_W) (kc ks : Nat) : Prop :=
  ∀ (H : Heap) (locs : List Loc) (ls : Array Slot), lv_has ls nL lv → zu_w X ws H locs → W (zx_p X) (zx_l X) (zx_e X) (zx_R X) (zx_s X) (zx_m X) (zx_args X) (zx_below X) (zx_meth X) (zx_c X) H locs kc ks Q (F0 (zx_m X) pc ls st)
section ZU
variable {X : zX} {Q : State → Prop} {cc : ByteArray} {own : String} {nL pc kc ks : Nat} {lv lv' : List (Nat × Value)} {st rest : List Value} {ws ws' w0 : va_W}
theorem zu_eq (h : ws = ws') (k : zU X Q nL pc lv st ws' kc ks) : zU X Q nL pc lv st ws kc ks := h ▸ k
theorem zu_wide {k2 s2 : Nat} (h1 : kc ≤ k2) (h2 : ks ≤ s2) (k : zU X Q nL pc lv st ws k2 s2) : zU X Q nL pc lv st ws kc ks := fun H locs ls hl hw => W.widen h1 h2 (k H locs ls hl hw)
theorem zu_iconst {n : Int} {v : Int32} (hX : zu_ok X cc own nL) (d : decode cc pc = .ok (.iconst n, 1)) (hv : Int32.ofInt n = v) (k : zU X Q nL (pc + 1) lv (.int v :: st) ws kc ks) : zU X Q nL pc lv st ws kc ks := fun H locs ls hl hw => lv_iconst hX.1 hX.2.1 d hv (k H locs ls hl hw)
theorem zu_bipush {n : Int} {v : Int32} (hX : zu_ok X cc own nL) (d : decode cc pc = .ok (.bipush n, 2)) (hv : (Int8.ofInt n).toInt32 = v) (k : zU X Q nL (pc + 2) lv (.int v :: st) ws kc ks) : zU X Q nL pc lv st ws kc ks := fun H locs ls hl hw => lv_bipush hX.1 hX.2.1 d hv (k H locs ls hl hw)
theorem zu_sipush {n : Int} {v : Int32} (hX : zu_ok X cc own nL) (d : decode cc pc = .ok (.sipush n, 3)) (hv : (Int16.ofInt n).toInt32 = v) (k : zU X Q nL (pc + 3) lv (.int v :: st) ws kc ks) : zU X Q nL pc lv st ws kc ks := fun H locs ls hl hw => lv_sipush hX.1 hX.2.1 d hv (k H locs ls hl hw)
theorem zu_aload_n {n : Fin 4} {x : Nat} (hX : zu_ok X cc own nL) (d : decode cc pc = .ok (.aload_n n, 1)) (p : Nat) (hp : lv[p]? = some ((n : Nat), .ref x)) (k : zU X Q nL (pc + 1) lv (.ref x :: st) ws kc ks) : zU X Q nL pc lv st ws kc ks := fun H locs ls hl hw => lv_aload_n hX.1 hX.2.1 d rfl (lv_at hl p hp) (k H locs ls hl hw)
theorem zu_astore_n {n : Fin 4} {x : Nat} (hX : zu_ok X cc own nL) (d : decode cc pc = .ok (.astore_n n, 1)) (hn : (n : Nat) < nL) (hl : ((n : Nat), Value.ref x) :: lv.filter (fun q => !(q.1 == (n : Nat)) && !(q.1 + 1 == (n : Nat) && q.2.category == 2)) = lv') (k : zU X Q nL (pc + 1) lv' st ws kc ks) : zU X Q nL pc lv (.ref x :: st) ws kc ks := fun H locs ls hv hw => lv_astore_n hX.1 hX.2.1 d rfl hv hn hl (fun ls2 h2 => k H locs ls2 h2 hw)
theorem zu_dup {a : Value} (hX : zu_ok X cc own nL) (d : decode cc pc = .ok (.dup, 1)) (h1 : a.category = 1) (k : zU X Q nL (pc + 1) lv (a :: a :: st) ws kc ks) : zU X Q nL pc lv (a :: st) ws kc ks := fun H locs ls hl hw => lv_dup hX.1 hX.2.1 d h1 (k H locs ls hl hw)
theorem zu_get {p c j n a : Nat} {fs : List Value} {v : Value} (hX : zu_ok X cc own nL) (hf : zf_l own n c j) (hc : zf_c c) (hp : ws[p]? = some (a, .inr (c, fs))) (hv : fs[j]? = some v) (d : decode cc pc = .ok (.getfield n, 3)) (kk : zU X Q nL (pc + 3) lv (v :: st) ws kc ks) : zU X Q nL pc lv (.ref a :: st) ws kc ks := by
  intro H locs ls hl hw
  obtain ⟨C, T, N, h1, h2, h3⟩ := hf
  obtain ⟨C', T', N', g1, g2, -, -⟩ := hc
  cases h1.symm.trans g1
  exact va_get (D := zx_D X) (ci := c) (v := v) (C := C) (T := T) (N := N) hX.1 hX.2.1 hX.2.2.2.2.1 g2 hX.2.2.1 hX.2.2.2.2.2.1 hw.1 p hp h1 j h2 (hX.2.2.2.2.1 _ h3) (fun _ h9 => h9) hv d (kk H locs ls hl hw)
theorem zu_put {p c j n a : Nat} {fs : List Value} {v : Int32} (hX : zu_ok X cc own nL) (hf : zf_l own n c j) (hc : zf_c c) (ht : zf_k c j false .int) (hp : ws[p]? = some (a, .inr (c, fs))) (hj : j < fs.length) (d : decode cc pc = .ok (.putfield n, 3)) (hs : ws.set p (a, .inr (c, fs.set j (.int v))) = ws') (kk : zU X Q nL (pc + 3) lv st ws' kc ks) : zU X Q nL pc lv (.int v :: .ref a :: st) ws kc ks := by
  subst hs
  intro H locs ls hl hw
  obtain ⟨C, T, N, h1, h2, h3⟩ := hf
  obtain ⟨C', T', N', g1, g2, ⟨ty0, g3⟩, g4⟩ := hc
  cases h1.symm.trans g1
  obtain ⟨C', T', N', e1, e2, e3⟩ := ht
  cases h1.symm.trans e1
  exact va_put (D := zx_D X) (ci := c) (v := .int v) (ty := .int) (C := C) (T := T) (N := N) hX.1 hX.2.1 hX.2.2.2.2.1 g2 ty0 g3 g4 hX.2.2.1 hX.2.2.2.2.2.1 hw.1 hw.2.1 hw.2.2 p hp h1 j h2 (hX.2.2.2.2.1 _ h3) (fun _ h9 => h9) e2 e3 rfl rfl hj d (fun H1 locs1 hP hD hS => kk H1 locs1 ls hl ⟨hP, hD, hS⟩)
/-- a final field of the class's own, that holds a reference -/
def zf_f (own : String) (n c j : Nat) : Prop := ∃ (C : String) (T : u_T) (N : Nat) (ty : FieldType), zs_cls[c]? = some (C, T, N) ∧ j < N ∧ Cond.fieldLink own n (T j).1 (T j).2.1 (T j).2.2.1 ∈ zw_T ∧ (T j).2.2.2 = true ∧ (T j).1 = own ∧ parseFieldDescriptor (T j).2.2.1 = some ty ∧ (∀ r : Nat, narrow ty (.ref r) = .ref r ∧ fits ty (.ref r) = true)
theorem zu_putF {p c j n a r : Nat} {fs : List Value} (hX : zu_ok X cc own nL) (hm : (zx_meth X).name = "<init>") (hf : zf_f own n c j) (hc : zf_c c) (hp : ws[p]? = some (a, .inr (c, fs))) (hj : j < fs.length) (d : decode cc pc = .ok (.putfield n, 3)) (hs : ws.set p (a, .inr (c, fs.set j (.ref r))) = ws') (kk : zU X Q nL (pc + 3) lv st ws' kc ks) : zU X Q nL pc lv (.ref r :: .ref a :: st) ws kc ks := by
  subst hs
  intro H locs ls hl hw
  obtain ⟨C, T, N, ty, h1, h2, h3, h4, h5, h6, h7⟩ := hf
  obtain ⟨C', T', N', g1, g2, ⟨ty0, g3⟩, g4⟩ := hc
  cases h1.symm.trans g1
  exact va_putF (D := zx_D X) (ci := c) (v := .ref r) (ty := ty) (C := C) (T := T) (N := N) hX.1 hX.2.1 hX.2.2.2.2.1 g2 ty0 g3 g4 hX.2.2.1 hX.2.2.2.2.2.1 hw.1 hw.2.1 hw.2.2 p hp h1 j h2 (hX.2.2.2.2.1 _ h3) (fun _ h9 => h9) h4 hm h5 h6 (h7 r).1 (h7 r).2 hj d (fun H1 locs1 hP hD hS => kk H1 locs1 ls hl ⟨hP, hD, hS⟩)
theorem zu_iast {p a n : Nat} {f : Nat → Int32} {i x : Int32} (hX : zu_ok X cc own nL) (hp : ws[p]? = some (a, .inl (zx_cy X 0, n, .inl f))) (hi : vp_in i n) (d : decode cc pc = .ok (.iastore, 1)) (hs : ws.set p (a, .inl (zx_cy X 0, n, .inl (upd f i.toNatClampNeg x))) = ws') (kk : zU X Q nL (pc + 1) lv st ws' kc ks) : zU X Q nL pc lv (.int x :: .int i :: .ref a :: st) ws kc ks := by
  subst hs
  intro H locs ls hl hw
  exact va_iast hX.1 hX.2.1 hX.2.2.2.2.2.1 hw.1 hw.2.1 hw.2.2 p 0 hp rfl hi d (fun H1 locs1 hP hD hS => kk H1 locs1 ls hl ⟨hP, hD, hS⟩)
/-- a new array, all zeros -/
theorem zu_newa {n : Int32} {N t : Nat} {aty : ArrayType} {ty : FieldType} {a0 : vp_A} (hX : zu_ok X cc own nL) (hw1 : Cond.arrayClass ty ∈ zw_T) (hty : newarray.typeOf aty = ty) (ht : (zs_tys (zx_cy X))[t]? = some (zx_cy X t, ty)) (hra : ∀ (U : State) (q : ClassId), va_RA U q ty → U.vm.findClass ("[" ++ ty.toString) = some q) (ha : ∀ cA : ClassId, vp_cell cA a0 = arrV cA N (fun _ => defaultValue ty)) (hn : ¬ n < 0) (hN : n.toNatClampNeg = N) (hb : N * componentBytes ty ≤ 536870912) (h1 : kc + 1 ≤ (zx_R X).cells) (h2 : ks + N ≤ (zx_R X).slots) (d : decode cc pc = .ok (.newarray aty, 2)) {wq : Nat → va_W} (hs : ∀ q, ws ++ [(q, .inl (zx_cy X t, a0))] = wq q) (kk : ∀ q, zU X Q nL (pc + 2) lv (.ref q :: st) (wq q) (kc + 1) (ks + N)) : zU X Q nL pc lv (.int n :: st) ws kc ks := by
  intro H locs ls hl hw
  refine va_newa hX.1 hX.2.1 (by rw [hty]; exact hX.2.2.2.2.1 _ hw1) hty hX.2.2.2.2.2.1 hw.1 hw.2.1 hw.2.2 hX.2.2.2.2.2.2 ha hn hN hb h1 h2 d (fun q cA H1 hK hP hD hS => ?_)
  have e1 := hra _ _ (hX.2.2.2.2.2.1.2 t _ ht).2
  have e2 := hra _ _ (hK.2 (zs_tys (zx_cy X)).length (cA, ty) (by simp)).2
  have e3 : cA = zx_cy X t := Option.some.inj (e2.symm.trans e1)
  subst e3
  rw [hs q] at hP hD
  exact kk q H1 locs ls hl ⟨hP, hD, hS⟩
theorem zu_new {c n N : Nat} {C : String} {T : u_T} {ty0 : Nat → FieldType} {fs : List Value} (hX : zu_ok X cc own nL) (hc : zs_cls[c]? = some (C, T, N)) (hin : ∀ w ∈ u_ws C T N, w ∈ zw_T) (hty : ∀ k, k < N → parseFieldDescriptor (T k).2.2.1 = some (ty0 k)) (w1 : Cond.classLink own n C ∈ zw_T) (w2 : Cond.instantiable C N ∈ zw_T) (w3 : Cond.initialized C ∈ zw_T) (hfs : ∀ j, j < N → defaultValue (ty0 j) = vp_V fs j) (h1 : kc + 1 ≤ (zx_R X).cells) (h2 : ks + N ≤ (zx_R X).slots) (d : decode cc pc = .ok (.new n, 3)) {wq : Nat → va_W} (hs : ∀ q, ws ++ [(q, .inr (c, fs))] = wq q) (kk : ∀ q, zU X Q nL (pc + 3) lv (.ref q :: st) (wq q) (kc + 1) (ks + N)) : zU X Q nL pc lv st ws kc ks := by
  intro H locs ls hl hw
  exact va_new (ci := c) (fs := fs) (C := C) (T := T) (N := N) hX.1 hX.2.1 hX.2.2.2.2.1 hin ty0 hty hX.2.2.1 (hX.2.2.2.2.1 _ w1) (hX.2.2.2.2.1 _ w2) (hX.2.2.2.2.1 _ w3) hX.2.2.2.2.2.1 hw.1 hw.2.1 hw.2.2 hX.2.2.2.2.2.2 hc hfs h1 h2 d (fun q H1 hP hD hS => kk q H1 locs ls hl ⟨by rw [← hs q]; exact hP, by rw [← hs q]; exact hD, hS⟩)
theorem zu_obj {n a : Nat} (hX : zu_ok X cc own nL) (w1 : Cond.methodLink own n objectInit ∈ zw_T) (w2 : Cond.instanceMethod objectInit ∈ zw_T) (w3 : Cond.code objectInit ⟨#[0xb1]⟩ 1 none ∈ zw_T) (d : decode cc pc = .ok (.invokespecial n, 3)) (h1 : 1 ≤ (zx_R X).frames) (h2 : (st.map fun v => v.category).sum + 12 ≤ (zx_R X).locals) (kk : zU X Q nL (pc + 3) lv st ws kc ks) : zU X Q nL pc lv (.ref a :: st) ws kc ks := by
  intro H locs ls hl hw
  refine W.objInit hX.1 hX.2.1 hX.2.2.1 (hX.2.2.2.2.1 _ w1) (hX.2.2.2.2.1 _ w2) (hX.2.2.2.2.1 _ w3) rfl (by rw [hX.2.2.2.1]; exact hl.1) rfl d h1 (by simpa using h2) ?_
  exact kk H locs ls hl hw
end ZU
/-- a constructor's contract: the object's cell a, as it is born, becomes the cells of post -/
def zA1 (a sz : Nat) : Nat → Prop := fun q => q = a ∨ sz ≤ q
def zn_q (Y : zG) (A : Nat → Prop) (post : (Nat → Nat) → va_W) : Array Value → State → Outcome → State → Prop := fun _ st oc t => (oc = .returned none ∧ ∃ q : Nat → Nat, va_P Y.2.1 zs_cls (post q) t.heap ∧ va_D A (post q)) ∧ va_F A st t
def zn_p (Y : zG) (a sz : Nat) (e0 : va_E) (U : State) : Prop := U.heap.size = sz ∧ a < sz ∧ va_P Y.2.1 zs_cls [(a, e0)] U.heap ∧ va_K Y.2.1 zs_cls (zs_tys Y.2.2.2.1) U
def zNw (ns : List Cond) (U : State) : Prop := ∀ w ∈ ns, va_Nw w U
def zn_ok (ns : List Cond) : Prop := ∀ w ∈ ns, w.onTables = true ∧ ∃ (o : String) (i : Nat) (y : MethodName) (h : String), w = .methodLinkNest o i y h
theorem zNw.warm {ns : List Cond} {s U : State} (h : zNw ns s) (hn : zn_ok ns) (hW : s.WarmedH U.vm) : zNw ns U := by
  intro w hw
  obtain ⟨-, o, i, y, hh, rfl⟩ := hn w hw
  exact (h _ hw).warmM hW
theorem zNw.same {ns : List Cond} {u U : State} (h : zNw ns u) (hn : zn_ok ns) (hv : u.vm = U.vm) : zNw ns U := fun w hw => (h w hw).same (hn w hw).1 hv
def zN (Y : zG) (ns : List Cond) (y : MethodName) (cc : ByteArray) (mL : Nat) (rm : Room) (av : List Value) (a : Nat) (e0 : va_E) (post : (Nat → Nat) → va_W) (mc ms : Nat) : Prop :=
  ∀ sz : Nat, Met Y.1 y (.code y cc mL none :: zw_T) rm (va_Pc (.ref a :: av) (fun U => zn_p Y a sz e0 U ∧ zNw ns U)) (zn_q Y (zA1 a sz) post) mc ms (zA1 a sz)
def zx_nt (X : zX) (rm : Room) (ns : List Cond) : Prop := (zx_meth X).sig.returnType = none ∧ (zx_meth X).locks = false ∧ zx_R X = rm ∧ (zx_meth X).name = "<init>" ∧ zNw ns (zx_s X)
def zn_Q (X : zX) (post : (Nat → Nat) → va_W) (mc ms : Nat) : State → Prop := MQ (zx_below X) (zn_q (zx_Y X) (zx_A X) post) (zx_args X) (zx_s X) mc ms (zx_A X)
theorem zn_start {Y : zG} {ns : List Cond} {y : MethodName} {cc : ByteArray} {mL : Nat} {rm : Room} {av : List Value} {a : Nat} {e0 : va_E} {post : (Nat → Nat) → va_W} {mc ms : Nat} (hy : plainName y.cls = true) (hl : (lg_sl (.ref a :: av)).length ≤ mL) (hnm : y.name = "<init>")
    (body : ∀ X : zX, zx_Y X = Y → zx_nt X rm ns → zu_ok X cc y.cls mL → zU X (zn_Q X post mc ms) mL 0 (lv_args 0 (.ref a :: av)) [] [(a, e0)] 0 0) : zN Y ns y cc mL rm av a e0 post mc ms := by
  intro sz
  refine Met.ofW (cc := cc) (maxL := mL) (ret := none) hy rfl ?_
  intro p e st m args below meth c s₁ B hml hv
  obtain ⟨rfl, ⟨hsz, ha, hP, hK⟩, hN⟩ := hv
  subst hsz
  have hts := atoms_spec (ws := Cond.code y cc mL none :: zw_T) B.pre
  have K := body (p, Y.1, e, (headSpec (Cond.code y cc mL none :: zw_T) rm).room, st, m, (Value.ref a :: av).toArray, below, meth, c, Y.2.1, Y.2.2.1, Y.2.2.2.1, Y.2.2.2.2, zA1 a st.heap.size, 0, 0) rfl ⟨B.returns, B.notSynchronized, rfl, (name_of_methodNamed B.named B.method).1.trans hnm, hN⟩
    ⟨B.exec, B.bytes, findClass_of_methodNamed B.named, hml, fun w hw => hts w (List.mem_cons_of_mem _ hw), hK, fun q h => Or.inr h⟩ st.heap []
    ((lg_sl (.ref a :: av) ++ List.replicate (mL - (lg_sl (.ref a :: av)).length) Slot.unset).toArray) (lv_entry (.ref a :: av) hl) ⟨hP, ⟨fun i j p q hi hj _ => by
      have h1 := (List.getElem?_eq_some_iff.mp hi).1
      have h2 := (List.getElem?_eq_some_iff.mp hj).1
      simp at h1 h2
      omega, fun k q hk => by
      have h1 := (List.getElem?_eq_some_iff.mp hk).1
      simp at h1
      subst h1
      cases hk
      exact Or.inl rfl⟩, va_S.rf⟩
  rw [lg_entry_eq]
  exact K
section ZU2
variable {X : zX} {Q : State → Prop} {cc : ByteArray} {own : String} {nL pc kc ks : Nat} {lv lv' : List (Nat × Value)} {st rest : List Value} {ws ws' w0 : va_W}
theorem zu_ret {post : (Nat → Nat) → va_W} {rm : Room} {ns : List Cond} (hX : zu_ok X cc own nL) (hT : zx_nt X rm ns) (q : Nat → Nat) (hq : ws = post q) (d : decode cc pc = .ok (.return_, 1)) : zU X (zn_Q X post kc ks) nL pc lv [] ws kc ks := by
  subst hq
  intro H locs ls hl hw
  exact W.vret (Qc := zn_q (zx_Y X) (zx_A X) post) (free := zx_A X) hX.1 hX.2.1 hT.1 (fun t ht hW => ⟨⟨rfl, q, by rw [ht]; exact hw.1, hw.2.1⟩, hw.2.2.F ht⟩) hw.2.2.2.2 d hT.2.1
theorem zn_good {y : MethodName} {bb : ByteArray} {mB n : Nat} (hX : zu_ok X cc own nL) (hb : zc_b y bb mB none n) : ∀ w ∈ (Cond.code y bb mB none :: zw_T), ∀ (a' : Array Value) (U : State), (zx_s X).WarmedH U.vm → w.before a' U = true := by
  intro w hw a' U hW
  have hw2 : w ∈ zw_T := by
    rcases List.mem_cons.mp hw with e | e
    · rw [e]; exact hb.2.1
    · exact e
  exact word_at hW (zw_good (c := w) hw2).2 (hX.2.2.2.2.1 w hw2)
/-- behind a constructor's call -/
theorem zu_back {a : Nat} {e0 : va_E} {post : (Nat → Nat) → va_W} {H : Heap} {locs : List Loc} {ls : Array Slot} {ar : Array Value} {mc ms : Nat} (hX : zu_ok X cc own nL) (hw : zu_w X (w0 ++ [(a, e0)]) H locs)
    (hr : va_Run (zx_p X) (zx_l X) (zx_e X) (zx_R X) (zx_s X) (zx_m X) (zx_args X) (zx_below X) (zx_meth X) (zx_c X) H locs kc ks mc ms (F0 (zx_m X) pc ls st) rest (zn_q (zx_Y X) (zA1 a H.size) post ar) (zA1 a H.size))
    (kk : ∀ (q : Nat → Nat) (H1 : Heap) (locs1 : List Loc), zu_w X (w0 ++ post q) H1 locs1 → W (zx_p X) (zx_l X) (zx_e X) (zx_R X) (zx_s X) (zx_m X) (zx_args X) (zx_below X) (zx_meth X) (zx_c X) H1 locs1 (kc + mc) (ks + ms) Q (F0 (zx_m X) (pc + 3) ls rest)) :
    W (zx_p X) (zx_l X) (zx_e X) (zx_R X) (zx_s X) (zx_m X) (zx_args X) (zx_below X) (zx_meth X) (zx_c X) H locs kc ks Q (F0 (zx_m X) pc ls st) := by
  intro T hT X0
  obtain ⟨v', st₀, t, T', L, h0, X', hL, e1, e2, ⟨⟨hv, q, hp, hd⟩, hz, hk⟩, sts⟩ := hr T hT X0
  cases hv
  have hlast : (w0 ++ [(a, e0)])[w0.length]? = some (a, e0) := by simp
  have haA : zx_A X a := hw.2.1.2 w0.length _ hlast
  have hAA : ∀ q, zA1 a H.size q → zx_A X q := by
    intro q hq
    rcases hq with rfl | hq
    · exact haA
    · exact hX.2.2.2.2.2.2 q (Nat.le_trans hw.2.2.1 hq)
  rw [h0] at hz hk
  have hw0 : ∀ (i : Nat) (x : Nat × va_E), w0[i]? = some x → (w0 ++ [(a, e0)])[i]? = some x ∧ i < w0.length := by
    intro i x hx
    have hl := (List.getElem?_eq_some_iff.mp hx).1
    exact ⟨by rw [List.getElem?_append_left hl]; exact hx, hl⟩
  have apart : ∀ (i : Nat) (x : Nat × va_E), w0[i]? = some x → x.1 < H.size ∧ ¬ zA1 a H.size x.1 := by
    intro i x hx
    obtain ⟨h1, h2⟩ := hw0 i x hx
    have hlt := (hw.1 i x h1).lt
    refine ⟨hlt, fun h => ?_⟩
    rcases h with h | h
    · have := hw.2.1.1 i w0.length x (a, e0) h1 hlast h
      omega
    · omega
  have hP : va_P (zx_D X) zs_cls (w0 ++ post q) T'.heap := by
    refine va_P.app (fun i x hx => ?_) (by rw [e1]; exact hp)
    obtain ⟨h1, h2⟩ := hw0 i x hx
    obtain ⟨g1, g2⟩ := apart i x hx
    exact (hw.1 i x h1).kept (by rw [e1]; exact hk x.1 g1 g2)
  have hD0 : va_D (zx_A X) w0 := by
    refine ⟨fun i j x y hi hj e => hw.2.1.1 i j x y (hw0 i x hi).1 (hw0 j y hj).1 e, fun i x hx => hw.2.1.2 i x (hw0 i x hx).1⟩
  have hD : va_D (zx_A X) (w0 ++ post q) := va_D.app hD0 (hd.weaken (fun k x _ h => hAA x.1 h)) (fun i j x y hx hy hxy => (apart i x hx).2 (by rw [hxy]; exact hd.2 j y hy))
  obtain ⟨t2, a1, b1⟩ := kk q T'.heap (locs ++ L) ⟨hP, hD, ⟨Nat.le_trans hw.2.2.1 (by rw [e1]; exact hz), fun q h1 h2 => by rw [e1, hk q (Nat.lt_of_lt_of_le h1 hw.2.2.1) (fun z => h2 (hAA q z))]; exact hw.2.2.2.1 q h1 h2, fun q hq => by
      rcases List.mem_append.mp hq with h | h
      · exact hw.2.2.2.2 q h
      · exact hAA _ (hL q h)⟩⟩ T' rfl X'
  exact ⟨t2, sts t2 a1, b1⟩
theorem zn_blind (Y : zG) (ns : List Cond) (hn : zn_ok ns) (a sz : Nat) (e0 : va_E) (av : List Value) : FrameBlind (va_Pc av (fun U => zn_p Y a sz e0 U ∧ zNw ns U)) := by
  intro ar U g mk q
  obtain ⟨q0, ⟨q1, q2, q3, q4⟩, q5⟩ := q
  exact ⟨q0, ⟨q1, q2, q3, va_K.moved (u := U) (U := U.calling g mk ar) (Vm.Alike.refl U.vm) q4⟩, q5.same hn rfl⟩
theorem zn_pre {ns : List Cond} (hn : zn_ok ns) (hs : zNw ns (zx_s X)) {a : Nat} {e0 : va_E} {H : Heap} {locs : List Loc} (hX : zu_ok X cc own nL) (hw : zu_w X (w0 ++ [(a, e0)]) H locs) {U : State} (hU : U.heap = H) (hW : (zx_s X).WarmedH U.vm) : zn_p (zx_Y X) a H.size e0 U ∧ zNw ns U := by
  have hlast : (w0 ++ [(a, e0)])[w0.length]? = some (a, e0) := by simp
  refine ⟨⟨by rw [hU], (hw.1 _ _ hlast).lt, ?_, va_K.moved hW.alike hX.2.2.2.2.2.1⟩, hs.warm hn hW⟩
  rw [hU]
  intro k q hk
  have h1 := (List.getElem?_eq_some_iff.mp hk).1
  simp at h1
  subst h1
  cases hk
  exact hw.1 _ _ hlast
theorem zu_callI {ns : List Cond} {a idx mB n mc ms : Nat} {e0 : va_E} {post : (Nat → Nat) → va_W} {y : MethodName} {bb : ByteArray} {rB rA : Room} (As : List Value) (hX : zu_ok X cc own nL) (hR : zx_R X = rA) (hn0 : zn_ok ns) (hs : zNw ns (zx_s X)) (hM : zN (zx_Y X) ns y bb mB rB As a e0 post mc ms) (hy : zc_b y bb mB none n) (hy1 : y.name = "<init>") (hy2 : Cond.instanceMethod y ∈ zw_T) (hl : Cond.methodLink own idx y ∈ zw_T) (hn : As.length = n)
    (hr : rB.cells = mc ∧ rB.slots = ms ∧ rB.frames + 1 ≤ rA.frames ∧ 8 + (mB + 11) + rB.locals ≤ rA.locals) (hf : kc + mc ≤ rA.cells ∧ ks + ms ≤ rA.slots) (hst : st = As.reverse ++ .ref a :: rest) (hc : (rest.map fun v => v.category).sum ≤ 8) (d : decode cc pc = .ok (.invokespecial idx, 3)) (kk : ∀ q : Nat → Nat, zU X Q nL (pc + 3) lv rest (w0 ++ post q) (kc + mc) (ks + ms)) : zU X Q nL pc lv st (w0 ++ [(a, e0)]) kc ks := by
  intro H locs ls hv hw
  subst hR
  refine zu_back hX hw (va_runI (As := As) (rest := rest) ⟨hX.1, hX.2.1, hX.2.2.2.1, hX.2.2.1, hX.2.2.2.2.1⟩ (hM H.size) ⟨⟨hr.1, hr.2.1, hr.2.2.1, hr.2.2.2, zn_good hX hy, List.mem_cons_self, hX.2.2.2.2.1 _ hy.2.1, hX.2.2.2.2.1 _ hy.1, hy.2.2.1, fun sig h => ?_, hX.2.2.2.2.1 _ hl⟩, hy1, hX.2.2.2.2.1 _ hy2⟩ ⟨zn_blind _ _ hn0 _ _ _ _, fun U hU hW => ⟨rfl, zn_pre hn0 hs hX hw hU hW⟩⟩ rfl hn hv.1 hst (lv_room hc) d hf) (fun q H1 locs1 hw1 => kk q H1 locs1 ls hv hw1)
  have h2 := hy.2.2.2
  rw [h] at h2
  exact (Option.some.inj h2).symm
theorem zu_callN {ns : List Cond} {a idx mB n mc ms : Nat} {host : String} {e0 : va_E} {post : (Nat → Nat) → va_W} {y : MethodName} {bb : ByteArray} {rB rA : Room} (As : List Value) (hX : zu_ok X cc own nL) (hR : zx_R X = rA) (hn0 : zn_ok ns) (hs : zNw ns (zx_s X)) (hM : zN (zx_Y X) ns y bb mB rB As a e0 post mc ms) (hy : zc_b y bb mB none n) (hy1 : y.name = "<init>") (hy2 : Cond.instanceMethod y ∈ zw_T) (hl : va_Nw (.methodLinkNest own idx y host) (zx_s X)) (hn : As.length = n)
    (hr : rB.cells = mc ∧ rB.slots = ms ∧ rB.frames + 1 ≤ rA.frames ∧ 8 + (mB + 11) + rB.locals ≤ rA.locals) (hf : kc + mc ≤ rA.cells ∧ ks + ms ≤ rA.slots) (hst : st = As.reverse ++ .ref a :: rest) (hc : (rest.map fun v => v.category).sum ≤ 8) (d : decode cc pc = .ok (.invokespecial idx, 3)) (kk : ∀ q : Nat → Nat, zU X Q nL (pc + 3) lv rest (w0 ++ post q) (kc + mc) (ks + ms)) : zU X Q nL pc lv st (w0 ++ [(a, e0)]) kc ks := by
  intro H locs ls hv hw
  subst hR
  refine zu_back hX hw (va_runIN (As := As) (rest := rest) (host := host) ⟨hX.1, hX.2.1, hX.2.2.2.1, hX.2.2.1, hX.2.2.2.2.1⟩ (hM H.size) ⟨⟨⟨hr.1, hr.2.1, hr.2.2.1, hr.2.2.2, zn_good hX hy, List.mem_cons_self⟩, hX.2.2.2.2.1 _ hy.2.1, hX.2.2.2.2.1 _ hy.1, hy.2.2.1, fun sig h => ?_, va_Nw.use rfl hl⟩, hy1, hX.2.2.2.2.1 _ hy2⟩ ⟨zn_blind _ _ hn0 _ _ _ _, fun U hU hW => ⟨rfl, zn_pre hn0 hs hX hw hU hW⟩⟩ rfl hn hv.1 hst (lv_room hc) d hf) (fun q H1 locs1 hw1 => kk q H1 locs1 ls hv hw1)
  have h2 := hy.2.2.2
  rw [h] at h2
  exact (Option.some.inj h2).symm
end ZU2

