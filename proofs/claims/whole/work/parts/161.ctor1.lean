section ZU3
variable {X : zX} {Q : State → Prop} {cc : ByteArray} {own : String} {nL pc kc ks : Nat} {lv lv' : List (Nat × Value)} {st rest : List Value} {ws ws' w0 : va_W}
theorem zu_sub (ks' : List Nat) (h : lv_pick lv ks' = lv') (k : zU X Q nL pc lv' st ws kc ks) : zU X Q nL pc lv st ws kc ks := fun H locs ls hl hw => k H locs ls (lv_sub hl ks' h) hw
theorem zu_iload_n {n : Fin 4} {x : Int32} (hX : zu_ok X cc own nL) (d : decode cc pc = .ok (.iload_n n, 1)) (p : Nat) (hp : lv[p]? = some ((n : Nat), .int x)) (k : zU X Q nL (pc + 1) lv (.int x :: st) ws kc ks) : zU X Q nL pc lv st ws kc ks := fun H locs ls hl hw => lv_iload_n hX.1 hX.2.1 d rfl (lv_at hl p hp) (k H locs ls hl hw)
theorem zu_istore_n {n : Fin 4} {x : Int32} (hX : zu_ok X cc own nL) (d : decode cc pc = .ok (.istore_n n, 1)) (hn : (n : Nat) < nL) (hl : ((n : Nat), Value.int x) :: lv.filter (fun q => !(q.1 == (n : Nat)) && !(q.1 + 1 == (n : Nat) && q.2.category == 2)) = lv') (k : zU X Q nL (pc + 1) lv' st ws kc ks) : zU X Q nL pc lv (.int x :: st) ws kc ks := fun H locs ls hv hw => lv_istore_n hX.1 hX.2.1 d rfl hv hn hl (fun ls2 h2 => k H locs ls2 h2 hw)
theorem zu_iinc {n : Nat} {z : Int} {x v : Int32} (hX : zu_ok X cc own nL) (d : decode cc pc = .ok (.iinc n z, 3)) (p : Nat) (hp : lv[p]? = some (n, .int x)) (hv : x + Int32.ofInt z = v) (hn : n < nL) (hl : (n, Value.int v) :: lv.filter (fun q => !(q.1 == n) && !(q.1 + 1 == n && q.2.category == 2)) = lv') (k : zU X Q nL (pc + 3) lv' st ws kc ks) : zU X Q nL pc lv st ws kc ks := fun H locs ls hq hw => lv_iinc hX.1 hX.2.1 d hq hp hv hn hl (fun ls2 h2 => k H locs ls2 h2 hw)
theorem zu_iadd {x y : Int32} (hX : zu_ok X cc own nL) (d : decode cc pc = .ok (.iadd, 1)) (k : zU X Q nL (pc + 1) lv (.int (x + y) :: st) ws kc ks) : zU X Q nL pc lv (.int y :: .int x :: st) ws kc ks := fun H locs ls hl hw => lv_iadd hX.1 hX.2.1 d (k H locs ls hl hw)
theorem zu_goto {z : Int} {tgt : Nat} (hX : zu_ok X cc own nL) (d : decode cc pc = .ok (.goto z, 3)) (ht : (pc : Int) + z = (tgt : Int)) (k : zU X Q nL tgt lv st ws kc ks) : zU X Q nL pc lv st ws kc ks := fun H locs ls hl hw => lv_goto hX.1 hX.2.1 d ht (k H locs ls hl hw)
theorem zu_icmp_ge {x y : Int32} {z : Int} {tgt : Nat} (hX : zu_ok X cc own nL) (d : decode cc pc = .ok (.if_icmp .ge z, 3)) (ht : (pc : Int) + z = (tgt : Int)) (k1 : y ≤ x → zU X Q nL tgt lv st ws kc ks) (k2 : ¬ y ≤ x → zU X Q nL (pc + 3) lv st ws kc ks) : zU X Q nL pc lv (.int y :: .int x :: st) ws kc ks := fun H locs ls hl hw => lv_icmp_ge hX.1 hX.2.1 d ht (fun h => k1 h H locs ls hl hw) (fun h => k2 h H locs ls hl hw)
theorem zu_alen {p a n : Nat} {f : Nat → Int32} (hX : zu_ok X cc own nL) (hp : ws[p]? = some (a, .inl (zx_cy X 0, n, .inl f))) (d : decode cc pc = .ok (.arraylength, 1)) (k : zU X Q nL (pc + 1) lv (.int (nI n) :: st) ws kc ks) : zU X Q nL pc lv (.ref a :: st) ws kc ks := fun H locs ls hl hw => va_alen (x := (n, .inl f)) (v := nI n) hX.1 hX.2.1 hX.2.2.2.2.2.1 hw.1 p 0 hp rfl rfl d (k H locs ls hl hw)
end ZU3
def zx_st (X : zX) (rm : Room) : Prop := (zx_meth X).sig.returnType = none ∧ (zx_meth X).locks = false ∧ zx_R X = rm
theorem zs_start {Y : zG} {y : MethodName} {cc : ByteArray} {mL : Nat} {rm : Room} {av : List Value} {a : Nat} {e0 : va_E} {post : (Nat → Nat) → va_W} {mc ms : Nat} (hy : plainName y.cls = true) (hl : (lg_sl (.ref a :: av)).length ≤ mL)
    (body : ∀ X : zX, zx_Y X = Y → zx_st X rm → zu_ok X cc y.cls mL → zU X (zn_Q X post mc ms) mL 0 (lv_args 0 (.ref a :: av)) [] [(a, e0)] 0 0) : zN Y [] y cc mL rm av a e0 post mc ms := by
  intro sz
  refine Met.ofW (cc := cc) (maxL := mL) (ret := none) hy rfl ?_
  intro p e st m args below meth c s₁ B hml hv
  obtain ⟨rfl, ⟨hsz, ha, hP, hK⟩, hN⟩ := hv
  subst hsz
  have hts := atoms_spec (ws := Cond.code y cc mL none :: zw_T) B.pre
  have K := body (p, Y.1, e, (headSpec (Cond.code y cc mL none :: zw_T) rm).room, st, m, (Value.ref a :: av).toArray, below, meth, c, Y.2.1, Y.2.2.1, Y.2.2.2.1, Y.2.2.2.2, zA1 a st.heap.size, 0, 0) rfl ⟨B.returns, B.notSynchronized, rfl⟩
    ⟨B.exec, B.bytes, findClass_of_methodNamed B.named, hml, fun w hw => hts w (List.mem_cons_of_mem _ hw), hK, fun q h => Or.inr h⟩ st.heap []
    ((lg_sl (.ref a :: av) ++ List.replicate (mL - (lg_sl (.ref a :: av)).length) Slot.unset).toArray) (lv_entry (.ref a :: av) hl) ⟨hP, ⟨fun i j p q hi hj _ => by
      have h1 := (List.getElem?_eq_some_iff.mp hi).1
      have h2 := (List.getElem?_eq_some_iff.mp hj).1
      simp at h1 h2
      omega, fun k q hk => by
      have h1 := (List.getElem?_eq_some_iff.mp hk).1
      simp at h1
      subst h1
      cases hk
      exact Or.inl rfl⟩, va_S.rf⟩
  rw [lg_entry_eq]
  exact K
theorem zs_startJ {Y : zG} {y : MethodName} {cc : ByteArray} {mL : Nat} {rm : Room} {av : List Value} {a : Nat} {e0 : va_E} {post : (Nat → Nat) → va_W} {mc ms : Nat} (hy : plainFor y = true) (hl : (lg_sl (.ref a :: av)).length ≤ mL)
    (body : ∀ X : zX, zx_Y X = Y → zx_st X rm → zu_ok X cc y.cls mL → zU X (zn_Q X post mc ms) mL 0 (lv_args 0 (.ref a :: av)) [] [(a, e0)] 0 0) : zN Y [] y cc mL rm av a e0 post mc ms := by
  intro sz
  refine va_MetF (cc := cc) (maxL := mL) (ret := none) hy rfl ?_
  intro p e st m args below meth c s₁ B hml hv
  obtain ⟨rfl, ⟨hsz, ha, hP, hK⟩, hN⟩ := hv
  subst hsz
  have hts := atoms_spec (ws := Cond.code y cc mL none :: zw_T) B.pre
  have K := body (p, Y.1, e, (headSpec (Cond.code y cc mL none :: zw_T) rm).room, st, m, (Value.ref a :: av).toArray, below, meth, c, Y.2.1, Y.2.2.1, Y.2.2.2.1, Y.2.2.2.2, zA1 a st.heap.size, 0, 0) rfl ⟨B.returns, B.notSynchronized, rfl⟩
    ⟨B.exec, B.bytes, findClass_of_methodNamed B.named, hml, fun w hw => hts w (List.mem_cons_of_mem _ hw), hK, fun q h => Or.inr h⟩ st.heap []
    ((lg_sl (.ref a :: av) ++ List.replicate (mL - (lg_sl (.ref a :: av)).length) Slot.unset).toArray) (lv_entry (.ref a :: av) hl) ⟨hP, ⟨fun i j p q hi hj _ => by
      have h1 := (List.getElem?_eq_some_iff.mp hi).1
      have h2 := (List.getElem?_eq_some_iff.mp hj).1
      simp at h1 h2
      omega, fun k q hk => by
      have h1 := (List.getElem?_eq_some_iff.mp hk).1
      simp at h1
      subst h1
      cases hk
      exact Or.inl rfl⟩, va_S.rf⟩
  rw [lg_entry_eq]
  exact K
section ZU4
variable {X : zX} {Q : State → Prop} {cc : ByteArray} {own : String} {nL pc kc ks : Nat} {lv lv' : List (Nat × Value)} {st rest : List Value} {ws ws' w0 : va_W}
theorem zu_retS {post : (Nat → Nat) → va_W} {rm : Room} (hX : zu_ok X cc own nL) (hT : zx_st X rm) (q : Nat → Nat) (hq : ws = post q) (d : decode cc pc = .ok (.return_, 1)) : zU X (zn_Q X post kc ks) nL pc lv [] ws kc ks := by
  subst hq
  intro H locs ls hl hw
  exact W.vret (Qc := zn_q (zx_Y X) (zx_A X) post) (free := zx_A X) hX.1 hX.2.1 hT.1 (fun t ht hW => ⟨⟨rfl, q, by rw [ht]; exact hw.1, hw.2.1⟩, hw.2.2.F ht⟩) hw.2.2.2.2 d hT.2.1
/-- a static call that changes one cell, anywhere in the world -/
theorem zu_callS {p a idx mB n : Nat} {e0 e1 : va_E} {y : MethodName} {bb : ByteArray} {rB rA : Room} (As : List Value) (hX : zu_ok X cc own nL) (hR : zx_R X = rA) (hM : zN (zx_Y X) [] y bb mB rB As a e0 (fun _ => [(a, e1)]) 0 0) (hy : zc_s y bb mB none n) (hl : Cond.methodLink own idx y ∈ zw_T) (hn : As.length + 1 = n) (hp : ws[p]? = some (a, e0))
    (hr : rB.cells = 0 ∧ rB.slots = 0 ∧ rB.frames + 1 ≤ rA.frames ∧ 8 + (mB + 11) + rB.locals ≤ rA.locals) (hf : kc ≤ rA.cells ∧ ks ≤ rA.slots) (hst : st = As.reverse ++ .ref a :: rest) (hc : (rest.map fun v => v.category).sum ≤ 8) (d : decode cc pc = .ok (.invokestatic idx, 3)) (hs : ws.set p (a, e1) = ws') (kk : zU X Q nL (pc + 3) lv rest ws' kc ks) : zU X Q nL pc lv st ws kc ks := by
  intro H locs ls hv hw
  subst hR
  subst hs
  obtain ⟨hb, h1⟩ := hy
  have hr2 := va_runS (As := .ref a :: As) (rest := rest) (g := F0 (zx_m X) pc ls st) (locs := locs) (cells := kc) (slots := ks) (below := zx_below X) (meth := zx_meth X) (e := zx_e X) (H := H) ⟨hX.1, hX.2.1, hX.2.2.2.1, hX.2.2.1, hX.2.2.2.2.1⟩ (hM H.size) ⟨⟨hr.1, hr.2.1, hr.2.2.1, hr.2.2.2, zn_good hX hb, List.mem_cons_self, hX.2.2.2.2.1 _ hb.2.1, hX.2.2.2.2.1 _ hb.1, hb.2.2.1, fun sig h => by
      have h2 := hb.2.2.2
      rw [h] at h2
      exact (Option.some.inj h2).symm, hX.2.2.2.2.1 _ hl⟩, hX.2.2.2.2.1 _ h1⟩ ⟨zn_blind _ _ (fun _ h => by cases h) _ _ _ _, fun U hU hW => ⟨rfl, ⟨by rw [hU], (hw.1 _ _ hp).lt, by
      rw [hU]
      intro k q hk
      have h1 := (List.getElem?_eq_some_iff.mp hk).1
      simp at h1
      subst h1
      cases hk
      exact hw.1 _ _ hp, va_K.moved hW.alike hX.2.2.2.2.2.1⟩, fun _ h => by cases h⟩⟩ rfl (by simpa using hn) hv.1 (by rw [hst]; simp) (lv_room hc) d hf
  intro T hT X0
  obtain ⟨v', st₀, t, T', L, h0, X', hL, e1', e2, ⟨⟨hv', q, hpp, hd⟩, hz, hk⟩, sts⟩ := hr2 T hT X0
  cases hv'
  have haA : zx_A X a := hw.2.1.2 p _ hp
  have hAA : ∀ q, zA1 a H.size q → zx_A X q := by
    intro q hq
    rcases hq with rfl | hq
    · exact haA
    · exact hX.2.2.2.2.2.2 q (Nat.le_trans hw.2.2.1 hq)
  rw [h0] at hz hk
  have hP : va_P (zx_D X) zs_cls (ws.set p (a, e1)) T'.heap := by
    have hl0 := (List.getElem?_eq_some_iff.mp hp).1
    intro i x hx
    by_cases hip : i = p
    · subst hip
      rw [List.getElem?_set_self hl0] at hx
      cases hx
      rw [e1']
      exact hpp 0 _ rfl
    · rw [List.getElem?_set_ne (Ne.symm hip)] at hx
      refine (hw.1 i x hx).kept ?_
      rw [e1']
      refine hk x.1 (hw.1 i x hx).lt (fun z => ?_)
      rcases z with z | z
      · exact hip (hw.2.1.1 i p x (a, e0) hx hp z)
      · have := (hw.1 i x hx).lt
        omega
  obtain ⟨t2, a1, b1⟩ := kk T'.heap (locs ++ L) ls hv ⟨hP, hw.2.1.set hp, ⟨Nat.le_trans hw.2.2.1 (by rw [e1']; exact hz), fun q h1 h2 => by rw [e1', hk q (Nat.lt_of_lt_of_le h1 hw.2.2.1) (fun z => h2 (hAA q z))]; exact hw.2.2.2.1 q h1 h2, fun q hq => by
      rcases List.mem_append.mp hq with h | h
      · exact hw.2.2.2.2 q h
      · exact hAA _ (hL q h)⟩⟩ T' rfl X'
  exact ⟨t2, sts t2 a1, b1⟩
end ZU4
theorem fill_up {f : Nat → Int32} {v : Int32} {i : Nat} : upd (fun j => if j < i then v else f j) i v = fun j => if j < i + 1 then v else f j := by
  funext j
  unfold upd
  by_cases h : j = i
  · subst h; simp
  · rw [if_neg h]
    dsimp only
    by_cases h2 : j < i
    · rw [if_pos h2, if_pos (by omega)]
    · rw [if_neg h2, if_neg (by omega)]
theorem s_fill_loop {X : zX} {a n : Nat} {v : Int32} {f : Nat → Int32} (hn : n < 2 ^ 31) (hX : zu_ok X cJ7_fill_53178 RJ7 4) (hT : zx_st X (zR 0 0)) : ∀ (k i : Nat), i + k = n → zU X (zn_Q X (fun _ => [(a, .inl (zx_cy X 0, n, .inl (fun j => if j < n then v else f j)))]) 0 0) 4 5 [(0, .ref a), (1, .int v), (2, .int (nI i)), (3, .int (nI n))] [] [(a, .inl (zx_cy X 0, n, .inl (fun j => if j < i then v else f j)))] 0 0 := by
  intro k
  induction k with
  | zero =>
    intro i hi
    have e : i = n := by omega
    subst e
    refine zu_iload_n hX dJ7_fill_53178_5 2 rfl ?_
    refine zu_iload_n hX dJ7_fill_53178_6 3 rfl ?_
    refine zu_icmp_ge (tgt := 20) hX dJ7_fill_53178_7 rfl (fun _ => ?_) (fun h => absurd (nI_le (Nat.le_refl i) hn) h)
    exact zu_retS hX hT (fun _ => 0) rfl dJ7_fill_53178_20
  | succ k ih =>
    intro i hi
    refine zu_iload_n hX dJ7_fill_53178_5 2 rfl ?_
    refine zu_iload_n hX dJ7_fill_53178_6 3 rfl ?_
    refine zu_icmp_ge (tgt := 20) hX dJ7_fill_53178_7 rfl (fun h => absurd h (nI_ge (by omega) hn)) (fun _ => ?_)
    refine zu_aload_n hX dJ7_fill_53178_10 0 rfl ?_
    refine zu_iload_n hX dJ7_fill_53178_11 2 rfl ?_
    refine zu_iload_n hX dJ7_fill_53178_12 1 rfl ?_
    refine zu_iast (p := 0) (n := n) (f := fun j => if j < i then v else f j) (ws' := [(a, .inl (zx_cy X 0, n, .inl (fun j => if j < i + 1 then v else f j)))]) hX rfl (vp_in_nI (by omega) hn) dJ7_fill_53178_13 (by rw [nI_clamp (by omega), fill_up]; rfl) ?_
    refine zu_iinc (v := nI (i + 1)) (lv' := [(2, .int (nI (i + 1))), (0, .ref a), (1, .int v), (3, .int (nI n))]) hX dJ7_fill_53178_14 2 rfl (by rw [zi_i_1]; exact nI_1 i) (by decide) rfl ?_
    refine zu_goto (tgt := 5) hX dJ7_fill_53178_17 rfl ?_
    exact zu_sub [1, 2, 0, 3] rfl (ih (i + 1) (by omega))
theorem s_fill (Y : zG) (a n : Nat) (v : Int32) (f : Nat → Int32) (hn : n < 2 ^ 31) : zN Y [] yJ7_fill_53178 cJ7_fill_53178 4 (zR 0 0) [.int v] a (.inl (Y.2.2.2.1 0, n, .inl f)) (fun _ => [(a, .inl (Y.2.2.2.1 0, n, .inl (fun j => if j < n then v else f j)))]) 0 0 := by
  refine zs_startJ (by decide +kernel) (Nat.le_of_ble_eq_true rfl) ?_
  intro X hY hT hX
  subst hY
  have hX : zu_ok X cJ7_fill_53178 RJ7 4 := hX
  show zU X _ 4 0 [(0, .ref a), (1, .int v)] [] [(a, .inl (zx_cy X 0, n, .inl f))] 0 0
  refine zu_iconst (v := 0) hX dJ7_fill_53178_0 zi_i_0 ?_
  refine zu_istore_n (lv' := [(2, .int 0), (0, .ref a), (1, .int v)]) hX dJ7_fill_53178_1 (by decide) rfl ?_
  refine zu_aload_n hX dJ7_fill_53178_2 1 rfl ?_
  refine zu_alen (p := 0) (f := f) hX rfl dJ7_fill_53178_3 ?_
  refine zu_istore_n (lv' := [(3, .int (nI n)), (2, .int 0), (0, .ref a), (1, .int v)]) hX dJ7_fill_53178_4 (by decide) rfl ?_
  refine zu_eq (ws' := [(a, .inl (zx_cy X 0, n, .inl (fun j => if j < 0 then v else f j)))]) (by simp) ?_
  exact zu_sub [2, 3, 1, 0] rfl (s_fill_loop hn hX hT n 0 (by omega))
/-- RingSignModel.plain: all 0, nobody with anybody -/
def zi_all : Nat → Int32 := fun j => if 22 ≤ j ∧ j < 29 then -1 else 0
theorem s_plain_2 {X : zX} {a n : Nat} (hn : 1155 ≤ n) (hn2 : n < 2 ^ 31) (hX : zu_ok X cX8_plain RX8 2) (hT : zx_st X (zR 0 0)) : ∀ (k i : Nat), i + k = 7 → zU X (zn_Q X (fun _ => [(a, .inl (zx_cy X 0, n, .inl zi_all))]) 0 0) 2 21 [(0, .ref a), (1, .int (nI i))] [] [(a, .inl (zx_cy X 0, n, .inl (fun j => if 22 ≤ j ∧ j < 22 + i then -1 else 0)))] 0 0 := by
  intro k
  induction k with
  | zero =>
    intro i hi
    have e : i = 7 := by omega
    subst e
    refine zu_iload_n hX dX8_plain_21 1 rfl ?_
    refine zu_bipush (v := 7) hX dX8_plain_22 zi_b_7 ?_
    refine zu_icmp_ge (tgt := 40) hX dX8_plain_24 rfl (fun _ => ?_) (fun h => absurd (by decide) h)
    exact zu_retS hX hT (fun _ => 0) rfl dX8_plain_40
  | succ k ih =>
    intro i hi
    refine zu_iload_n hX dX8_plain_21 1 rfl ?_
    refine zu_bipush (v := 7) hX dX8_plain_22 zi_b_7 ?_
    refine zu_icmp_ge (tgt := 40) hX dX8_plain_24 rfl (fun h => absurd h (nI_ge (a := i) (b := 7) (by omega) (by omega))) (fun _ => ?_)
    refine zu_aload_n hX dX8_plain_27 0 rfl ?_
    refine zu_bipush (v := 22) hX dX8_plain_28 zi_b_22 ?_
    refine zu_iload_n hX dX8_plain_30 1 rfl ?_
    refine zu_iadd hX dX8_plain_31 ?_
    refine zu_iconst (v := -1) hX dX8_plain_32 zi_i_m1 ?_
    have e : (22 : Int32) + nI i = nI (22 + i) := nI_add 22 i
    rw [e]
    refine zu_iast (p := 0) (n := n) (f := fun j => if 22 ≤ j ∧ j < 22 + i then -1 else 0) (ws' := [(a, .inl (zx_cy X 0, n, .inl (fun j => if 22 ≤ j ∧ j < 22 + (i + 1) then -1 else 0)))]) hX rfl (vp_in_nI (by omega) hn2) dX8_plain_33 (by
      rw [nI_clamp (by omega)]
      show [_] = [_]
      congr 6
      funext j
      unfold upd
      by_cases h : j = 22 + i
      · subst h; rw [if_pos rfl, if_pos (by omega)]
      · rw [if_neg h]
        dsimp only
        by_cases h2 : 22 ≤ j ∧ j < 22 + i
        · rw [if_pos h2, if_pos (by omega)]
        · rw [if_neg h2, if_neg (by omega)]) ?_
    refine zu_iinc (v := nI (i + 1)) (lv' := [(1, .int (nI (i + 1))), (0, .ref a)]) hX dX8_plain_34 1 rfl (by rw [zi_i_1]; exact nI_1 i) (by decide) rfl ?_
    refine zu_goto (tgt := 21) hX dX8_plain_37 rfl ?_
    exact zu_sub [1, 0] rfl (ih (i + 1) (by omega))
theorem s_plain_1 {X : zX} {a n : Nat} (hn : 1155 ≤ n) (hn2 : n < 2 ^ 31) (hX : zu_ok X cX8_plain RX8 2) (hT : zx_st X (zR 0 0)) : ∀ (k i : Nat), i + k = 1155 → zU X (zn_Q X (fun _ => [(a, .inl (zx_cy X 0, n, .inl zi_all))]) 0 0) 2 2 [(0, .ref a), (1, .int (nI i))] [] [(a, .inl (zx_cy X 0, n, .inl (fun _ => 0)))] 0 0 := by
  intro k
  induction k with
  | zero =>
    intro i hi
    have e : i = 1155 := by omega
    subst e
    refine zu_iload_n hX dX8_plain_2 1 rfl ?_
    refine zu_sipush (v := 1155) hX dX8_plain_3 zi_s_1155 ?_
    refine zu_icmp_ge (tgt := 19) hX dX8_plain_6 rfl (fun _ => ?_) (fun h => absurd (by decide) h)
    refine zu_iconst (v := 0) hX dX8_plain_19 zi_i_0 ?_
    refine zu_istore_n (lv' := [(1, .int 0), (0, .ref a)]) hX dX8_plain_20 (by decide) rfl ?_
    refine zu_eq (ws' := [(a, .inl (zx_cy X 0, n, .inl (fun j => if 22 ≤ j ∧ j < 22 + 0 then -1 else 0)))]) (by
      congr 6
      funext j
      rw [if_neg (by omega)]) ?_
    exact zu_sub [1, 0] rfl (s_plain_2 hn hn2 hX hT 7 0 (by omega))
  | succ k ih =>
    intro i hi
    refine zu_iload_n hX dX8_plain_2 1 rfl ?_
    refine zu_sipush (v := 1155) hX dX8_plain_3 zi_s_1155 ?_
    refine zu_icmp_ge (tgt := 19) hX dX8_plain_6 rfl (fun h => absurd h (nI_ge (a := i) (b := 1155) (by omega) (by omega))) (fun _ => ?_)
    refine zu_aload_n hX dX8_plain_9 0 rfl ?_
    refine zu_iload_n hX dX8_plain_10 1 rfl ?_
    refine zu_iconst (v := 0) hX dX8_plain_11 zi_i_0 ?_
    refine zu_iast (p := 0) (n := n) (f := fun _ => 0) (ws' := [(a, .inl (zx_cy X 0, n, .inl (fun _ => 0)))]) hX rfl (vp_in_nI (by omega) hn2) dX8_plain_12 (by
      show [_] = [_]
      congr 6
      funext j
      unfold upd
      split <;> rfl) ?_
    refine zu_iinc (v := nI (i + 1)) (lv' := [(1, .int (nI (i + 1))), (0, .ref a)]) hX dX8_plain_13 1 rfl (by rw [zi_i_1]; exact nI_1 i) (by decide) rfl ?_
    refine zu_goto (tgt := 2) hX dX8_plain_16 rfl ?_
    exact zu_sub [1, 0] rfl (ih (i + 1) (by omega))
theorem s_plain (Y : zG) (a n : Nat) (hn : 1155 ≤ n) (hn2 : n < 2 ^ 31) : zN Y [] yX8_plain cX8_plain 2 (zR 0 0) [] a (.inl (Y.2.2.2.1 0, n, .inl (fun _ => 0))) (fun _ => [(a, .inl (Y.2.2.2.1 0, n, .inl zi_all))]) 0 0 := by
  refine zs_start (by decide +kernel) (Nat.le_of_ble_eq_true rfl) ?_
  intro X hY hT hX
  subst hY
  have hX : zu_ok X cX8_plain RX8 2 := hX
  show zU X _ 2 0 [(0, .ref a)] [] [(a, .inl (zx_cy X 0, n, .inl (fun _ => 0)))] 0 0
  refine zu_iconst (v := 0) hX dX8_plain_0 zi_i_0 ?_
  refine zu_istore_n (lv' := [(1, .int 0), (0, .ref a)]) hX dX8_plain_1 (by decide) rfl ?_
  exact zu_sub [1, 0] rfl (s_plain_1 hn hn2 hX hT 1155 0 (by omega))
