/-- reading and writing of arrays: none where the machine would throw -/
def zr_i (s : zS) (k : Nat) (i : Int32) : Option Int32 := if zk_d k = 0 ∧ ¬ (i < 0 ∨ zk_n k ≤ i.toNatClampNeg) then some (s.1 k i.toNatClampNeg) else none
def zr_b (s : zS) (k : Nat) (i : Int32) : Option Int32 := if (zk_d k = 1 ∨ zk_d k = 2) ∧ ¬ (i < 0 ∨ zk_n k ≤ i.toNatClampNeg) then some (s.1 k i.toNatClampNeg) else none
def zr_l (s : zS) (k : Nat) (i : Int32) : Option Int64 := if zk_d k = 3 ∧ ¬ (i < 0 ∨ zk_n k ≤ i.toNatClampNeg) then some (s.2 k i.toNatClampNeg) else none
def zw_i (s : zS) (k : Nat) (i x : Int32) : Option zS := if zk_d k = 0 ∧ ¬ (i < 0 ∨ zk_n k ≤ i.toNatClampNeg) then some (zs_i s k i.toNatClampNeg x) else none
def zw_b (s : zS) (k : Nat) (i x : Int32) : Option zS := if zk_d k = 1 ∧ ¬ (i < 0 ∨ zk_n k ≤ i.toNatClampNeg) then some (zs_i s k i.toNatClampNeg (vp_nar .byte x)) else if zk_d k = 2 ∧ ¬ (i < 0 ∨ zk_n k ≤ i.toNatClampNeg) then some (zs_i s k i.toNatClampNeg (vp_nar .boolean x)) else none
def zw_l (s : zS) (k : Nat) (i : Int32) (x : Int64) : Option zS := if zk_d k = 3 ∧ ¬ (i < 0 ∨ zk_n k ≤ i.toNatClampNeg) then some (zs_l s k i.toNatClampNeg x) else none
def zr_t (k : Nat) (i : Int32) : Option Int32 := if ¬ (i < 0 ∨ (zt_row k).length ≤ i.toNatClampNeg) then some ((zt_row k).getD i.toNatClampNeg 0) else none
def zr_y (k : Nat) (i : Int32) : Option Int32 := if k < 3 ∧ ¬ (i < 0 ∨ zt_len.getD k 0 ≤ i.toNatClampNeg) then some ((zt_byt.getD k []).getD i.toNatClampNeg 0) else none
/-- System.arraycopy of ints -/
def zs_c (s : zS) (a sp b dp n : Nat) : zS := (fun q => if q = b then va_cpy (s.1 a) (s.1 b) sp dp n else s.1 q, s.2)
def zw_c (s : zS) (a : Nat) (sp : Int32) (b : Nat) (dp n : Int32) : Option zS := if (zk_d a = 0 ∧ zk_d b = 0) ∧ (¬ sp < 0 ∧ ¬ dp < 0 ∧ ¬ n < 0) ∧ sp.toNatClampNeg + n.toNatClampNeg ≤ zk_n a ∧ dp.toNatClampNeg + n.toNatClampNeg ≤ zk_n b then some (zs_c s a sp.toNatClampNeg b dp.toNatClampNeg n.toNatClampNeg) else none
/-- a named step -/
def zb {α β : Type} (a : α) (f : α → β) : β := f a
theorem zk_fs {ad : Nat → Nat} {s : zS} {k n j : Nat} (h : j < n) : ((List.range n).map (zk_f ad s k))[j]? = some (zk_f ad s k j) := by
  simp [List.getElem?_map, List.getElem?_range h]
theorem zk_fset {ad : Nat → Nat} {s : zS} {k n j : Nat} {v : Int32} (hr : zk_r k j = 0) (hj : j < n) : ((List.range n).map (zk_f ad s k)).set j (.int v) = (List.range n).map (zk_f ad (zs_i s k j v) k) := by
  apply List.ext_getElem?
  intro i
  by_cases hi : i = j
  · subst hi
    rw [List.getElem?_set_self (by simp; exact hj), zk_fs hj]
    simp [zk_f, hr, zs_i, upd]
  · rw [List.getElem?_set_ne (Ne.symm hi)]
    by_cases hl : i < n
    · rw [zk_fs hl, zk_fs hl]
      simp [zk_f, zs_i, upd, hi]
    · have a1 : ∀ z : zS, ((List.range n).map (zk_f ad z k))[i]? = none := fun z => by simp; omega
      rw [a1, a1]
section ZH
variable {ρ : Type} {X : zX} {Q : ρ × zS → State → Prop} {cc : ByteArray} {own : String} {nL pc : Nat} {lv lv' : List (Nat × Value)} {st : List Value} {s : zS} {o o1 o2 : Option (ρ × zS)}
theorem zv_get {k c j n : Nat} (hX : zx_ok X cc own nL) (hf : zf_l own n c j) (hc : zf_c c) (hk : zk_d k = 4 + c) (hn : j < zk_n k) (hc9 : c < 9) (d : decode cc pc = .ok (.getfield n, 3)) (kk : zV X Q nL (pc + 3) lv (zk_f (zx_ad X) s k j :: st) s o) : zV X Q nL pc lv (.ref (zx_ad X k) :: st) s o := by
  intro rr hr H locs ls hl hw
  obtain ⟨C, T, N, h1, h2, h3⟩ := hf
  obtain ⟨C', T', N', g1, g2, -, -⟩ := hc
  cases h1.symm.trans g1
  have hlt : k < 100 := zk_lt hk (by omega)
  refine va_get (D := zx_D X) (ci := c) (v := zk_f (zx_ad X) s k j) (C := C) (T := T) (N := N) hX.1 hX.2.1 hX.2.2.2.2.1 g2 hX.2.2.1 hX.2.2.2.2.2.1 hw.1 k ((zk_get _ _ _ hlt).trans (by rw [zk_eO _ _ _ hk])) h1 j h2 (hX.2.2.2.2.1 _ h3) (fun _ h9 => h9) (zk_fs hn) d (kk rr hr H locs ls hl hw)
theorem zv_geti {k c j n : Nat} (hX : zx_ok X cc own nL) (hf : zf_l own n c j) (hc : zf_c c) (hk : zk_d k = 4 + c) (hn : j < zk_n k) (hc9 : c < 9) (hr : zk_r k j = 0) (d : decode cc pc = .ok (.getfield n, 3)) (kk : zV X Q nL (pc + 3) lv (.int (s.1 k j) :: st) s o) : zV X Q nL pc lv (.ref (zx_ad X k) :: st) s o :=
  zv_get hX hf hc hk hn hc9 d (by rw [show zk_f (zx_ad X) s k j = .int (s.1 k j) by simp [zk_f, hr]]; exact kk)
theorem zv_geta {k c j n r : Nat} (hX : zx_ok X cc own nL) (hf : zf_l own n c j) (hc : zf_c c) (hk : zk_d k = 4 + c) (hn : j < zk_n k) (hc9 : c < 9) (hr : zk_r k j = r) (hr0 : r ≠ 0) (d : decode cc pc = .ok (.getfield n, 3)) (kk : zV X Q nL (pc + 3) lv (.ref (zx_ad X r) :: st) s o) : zV X Q nL pc lv (.ref (zx_ad X k) :: st) s o :=
  zv_get hX hf hc hk hn hc9 d (by rw [show zk_f (zx_ad X) s k j = .ref (zx_ad X r) by simp [zk_f, hr, hr0]]; exact kk)
theorem zv_putv {k c j n : Nat} {v : Int32} {ty : FieldType} {f : zS → Option (ρ × zS)} (hX : zx_ok X cc own nL) (hf : zf_l own n c j) (hc : zf_c c) (ht : zf_k c j false ty) (hk : zk_d k = 4 + c) (hn : j < zk_n k) (hc9 : c < 9) (hr : zk_r k j = 0) (hv : narrow ty (.int v) = .int v) (hv2 : fits ty (.int v) = true) (d : decode cc pc = .ok (.putfield n, 3)) (kk : ∀ s2, zV X Q nL (pc + 3) lv st s2 (f s2)) : zV X Q nL pc lv (.int v :: .ref (zx_ad X k) :: st) s (zb (zs_i s k j v) f) := by
  intro rr hrr H locs ls hl hw
  obtain ⟨C, T, N, h1, h2, h3⟩ := hf
  obtain ⟨C', T', N', g1, g2, ⟨ty0, g3⟩, g4⟩ := hc
  cases h1.symm.trans g1
  obtain ⟨C', T', N', e1, e2, e3⟩ := ht
  cases h1.symm.trans e1
  have hlt : k < 100 := zk_lt hk (by omega)
  refine va_put (D := zx_D X) (ci := c) (v := .int v) (ty := ty) (C := C) (T := T) (N := N) hX.1 hX.2.1 hX.2.2.2.2.1 g2 ty0 g3 g4 hX.2.2.1 hX.2.2.2.2.2.1 hw.1 hw.2.1 hw.2.2 k ((zk_get _ _ _ hlt).trans (by rw [zk_eO _ _ _ hk])) h1 j h2 (hX.2.2.2.2.1 _ h3) (fun _ h9 => h9) e2 e3 hv hv2 (by simp; exact hn) d (fun H1 locs1 hP hD hS => ?_)
  have e : zk_e (zx_cy X) (zx_ad X) (zs_i s k j v) k = .inr (c, ((List.range (zk_n k)).map (zk_f (zx_ad X) s k)).set j (.int v)) := by rw [zk_eO _ _ _ hk, zk_fset hr hn]
  rw [zk_set _ _ _ (zs_i s k j v) hlt (zs_i_ne s k j v).1 (zs_i_ne s k j v).2 e.symm] at hP hD
  exact kk (zs_i s k j v) rr hrr H1 locs1 ls hl ⟨hP, hD, hS⟩
theorem zv_puti {k c j n : Nat} {v : Int32} {f : zS → Option (ρ × zS)} (hX : zx_ok X cc own nL) (hf : zf_l own n c j) (hc : zf_c c) (ht : zf_k c j false .int) (hk : zk_d k = 4 + c) (hn : j < zk_n k) (hc9 : c < 9) (hr : zk_r k j = 0) (d : decode cc pc = .ok (.putfield n, 3)) (kk : ∀ s2, zV X Q nL (pc + 3) lv st s2 (f s2)) : zV X Q nL pc lv (.int v :: .ref (zx_ad X k) :: st) s (zb (zs_i s k j v) f) :=
  zv_putv hX hf hc ht hk hn hc9 hr rfl rfl d kk
theorem zv_putz {k c j n : Nat} {v : Int32} {f : zS → Option (ρ × zS)} (hX : zx_ok X cc own nL) (hf : zf_l own n c j) (hc : zf_c c) (ht : zf_k c j false .boolean) (hk : zk_d k = 4 + c) (hn : j < zk_n k) (hc9 : c < 9) (hr : zk_r k j = 0) (d : decode cc pc = .ok (.putfield n, 3)) (kk : ∀ s2, zV X Q nL (pc + 3) lv st s2 (f s2)) : zV X Q nL pc lv (.int v :: .ref (zx_ad X k) :: st) s (if v = 0 ∨ v = 1 then zb (zs_i s k j v) f else none) := by
  intro rr hrr
  by_cases h : v = 0 ∨ v = 1
  · rw [if_pos h] at hrr
    refine zv_putv hX hf hc ht hk hn hc9 hr ?_ ?_ d kk rr hrr
    · rcases h with h | h <;> subst h <;> decide
    · rcases h with h | h <;> subst h <;> decide
  · rw [if_neg h] at hrr; cases hrr

theorem zv_iald {k : Nat} {i : Int32} {f : Int32 → Option (ρ × zS)} (hX : zx_ok X cc own nL) (d : decode cc pc = .ok (.iaload, 1)) (kk : ∀ x, zV X Q nL (pc + 1) lv (.int x :: st) s (f x)) : zV X Q nL pc lv (.int i :: .ref (zx_ad X k) :: st) s ((zr_i s k i).bind f) := by
  intro rr hrr H locs ls hl hw
  by_cases h : zk_d k = 0 ∧ ¬ (i < 0 ∨ zk_n k ≤ i.toNatClampNeg)
  · rw [zr_i, if_pos h] at hrr
    exact va_iald hX.1 hX.2.1 hX.2.2.2.2.2.1 hw.1 k 0 ((zk_get _ _ _ (zk_lt h.1 (by omega))).trans (by rw [zk_eI _ _ _ h.1 (by omega)])) rfl h.2 d (kk _ rr hrr H locs ls hl hw)
  · rw [zr_i, if_neg h] at hrr; cases hrr
theorem zv_lald {k : Nat} {i : Int32} {f : Int64 → Option (ρ × zS)} (hX : zx_ok X cc own nL) (d : decode cc pc = .ok (.laload, 1)) (kk : ∀ x, zV X Q nL (pc + 1) lv (.long x :: st) s (f x)) : zV X Q nL pc lv (.int i :: .ref (zx_ad X k) :: st) s ((zr_l s k i).bind f) := by
  intro rr hrr H locs ls hl hw
  by_cases h : zk_d k = 3 ∧ ¬ (i < 0 ∨ zk_n k ≤ i.toNatClampNeg)
  · rw [zr_l, if_pos h] at hrr
    exact va_lald hX.1 hX.2.1 hX.2.2.2.2.2.1 hw.1 k 3 ((zk_get _ _ _ (zk_lt h.1 (by omega))).trans (by rw [zk_eL _ _ _ h.1])) rfl h.2 d (kk _ rr hrr H locs ls hl hw)
  · rw [zr_l, if_neg h] at hrr; cases hrr
theorem zv_bald {k : Nat} {i : Int32} {f : Int32 → Option (ρ × zS)} (hX : zx_ok X cc own nL) (d : decode cc pc = .ok (.baload, 1)) (kk : ∀ x, zV X Q nL (pc + 1) lv (.int x :: st) s (f x)) : zV X Q nL pc lv (.int i :: .ref (zx_ad X k) :: st) s ((zr_b s k i).bind f) := by
  intro rr hrr H locs ls hl hw
  by_cases h : (zk_d k = 1 ∨ zk_d k = 2) ∧ ¬ (i < 0 ∨ zk_n k ≤ i.toNatClampNeg)
  · rw [zr_b, if_pos h] at hrr
    rcases h.1 with h1 | h1
    · exact va_bald hX.1 hX.2.1 hX.2.2.2.2.2.1 hw.1 k 1 ((zk_get _ _ _ (zk_lt h1 (by omega))).trans (by rw [zk_eI _ _ _ h1 (by omega)])) rfl h.2 d (kk _ rr hrr H locs ls hl hw)
    · exact va_zald hX.1 hX.2.1 hX.2.2.2.2.2.1 hw.1 k 2 ((zk_get _ _ _ (zk_lt h1 (by omega))).trans (by rw [zk_eI _ _ _ h1 (by omega)])) rfl h.2 d (kk _ rr hrr H locs ls hl hw)
  · rw [zr_b, if_neg h] at hrr; cases hrr
theorem zv_iast {k : Nat} {i x : Int32} {f : zS → Option (ρ × zS)} (hX : zx_ok X cc own nL) (d : decode cc pc = .ok (.iastore, 1)) (kk : ∀ s2, zV X Q nL (pc + 1) lv st s2 (f s2)) : zV X Q nL pc lv (.int x :: .int i :: .ref (zx_ad X k) :: st) s ((zw_i s k i x).bind f) := by
  intro rr hrr H locs ls hl hw
  by_cases h : zk_d k = 0 ∧ ¬ (i < 0 ∨ zk_n k ≤ i.toNatClampNeg)
  · rw [zw_i, if_pos h] at hrr
    have hlt := zk_lt h.1 (by omega)
    refine va_iast hX.1 hX.2.1 hX.2.2.2.2.2.1 hw.1 hw.2.1 hw.2.2 k 0 ((zk_get _ _ _ hlt).trans (by rw [zk_eI _ _ _ h.1 (by omega)])) rfl h.2 d (fun H1 locs1 hP hD hS => ?_)
    have e := zk_eI (zx_cy X) (zx_ad X) (zs_i s k i.toNatClampNeg x) h.1 (by omega)
    rw [zs_i_at] at e
    rw [zk_set _ _ _ (zs_i s k i.toNatClampNeg x) hlt (zs_i_ne _ _ _ _).1 (zs_i_ne _ _ _ _).2 e.symm] at hP hD
    exact kk _ rr hrr H1 locs1 ls hl ⟨hP, hD, hS⟩
  · rw [zw_i, if_neg h] at hrr; cases hrr
theorem zv_bast {k : Nat} {i x : Int32} {f : zS → Option (ρ × zS)} (hX : zx_ok X cc own nL) (d : decode cc pc = .ok (.bastore, 1)) (kk : ∀ s2, zV X Q nL (pc + 1) lv st s2 (f s2)) : zV X Q nL pc lv (.int x :: .int i :: .ref (zx_ad X k) :: st) s ((zw_b s k i x).bind f) := by
  intro rr hrr H locs ls hl hw
  by_cases h : zk_d k = 1 ∧ ¬ (i < 0 ∨ zk_n k ≤ i.toNatClampNeg)
  · rw [zw_b, if_pos h] at hrr
    have hlt := zk_lt h.1 (by omega)
    refine va_bast hX.1 hX.2.1 hX.2.2.2.2.2.1 hw.1 hw.2.1 hw.2.2 k 1 ((zk_get _ _ _ hlt).trans (by rw [zk_eI _ _ _ h.1 (by omega)])) rfl h.2 d (fun H1 locs1 hP hD hS => ?_)
    have e := zk_eI (zx_cy X) (zx_ad X) (zs_i s k i.toNatClampNeg (vp_nar .byte x)) h.1 (by omega)
    rw [zs_i_at] at e
    rw [zk_set _ _ _ (zs_i s k i.toNatClampNeg (vp_nar .byte x)) hlt (zs_i_ne _ _ _ _).1 (zs_i_ne _ _ _ _).2 e.symm] at hP hD
    exact kk _ rr hrr H1 locs1 ls hl ⟨hP, hD, hS⟩
  · by_cases h2 : zk_d k = 2 ∧ ¬ (i < 0 ∨ zk_n k ≤ i.toNatClampNeg)
    · rw [zw_b, if_neg h, if_pos h2] at hrr
      have hlt := zk_lt h2.1 (by omega)
      refine va_zast hX.1 hX.2.1 hX.2.2.2.2.2.1 hw.1 hw.2.1 hw.2.2 k 2 ((zk_get _ _ _ hlt).trans (by rw [zk_eI _ _ _ h2.1 (by omega)])) rfl h2.2 d (fun H1 locs1 hP hD hS => ?_)
      have e := zk_eI (zx_cy X) (zx_ad X) (zs_i s k i.toNatClampNeg (vp_nar .boolean x)) h2.1 (by omega)
      rw [zs_i_at] at e
      rw [zk_set _ _ _ (zs_i s k i.toNatClampNeg (vp_nar .boolean x)) hlt (zs_i_ne _ _ _ _).1 (zs_i_ne _ _ _ _).2 e.symm] at hP hD
      exact kk _ rr hrr H1 locs1 ls hl ⟨hP, hD, hS⟩
    · rw [zw_b, if_neg h, if_neg h2] at hrr; cases hrr
theorem zv_last {k : Nat} {i : Int32} {x : Int64} {f : zS → Option (ρ × zS)} (hX : zx_ok X cc own nL) (d : decode cc pc = .ok (.lastore, 1)) (kk : ∀ s2, zV X Q nL (pc + 1) lv st s2 (f s2)) : zV X Q nL pc lv (.long x :: .int i :: .ref (zx_ad X k) :: st) s ((zw_l s k i x).bind f) := by
  intro rr hrr H locs ls hl hw
  by_cases h : zk_d k = 3 ∧ ¬ (i < 0 ∨ zk_n k ≤ i.toNatClampNeg)
  · rw [zw_l, if_pos h] at hrr
    have hlt := zk_lt h.1 (by omega)
    refine va_last hX.1 hX.2.1 hX.2.2.2.2.2.1 hw.1 hw.2.1 hw.2.2 k 3 ((zk_get _ _ _ hlt).trans (by rw [zk_eL _ _ _ h.1])) rfl h.2 d (fun H1 locs1 hP hD hS => ?_)
    have e := zk_eL (zx_cy X) (zx_ad X) (zs_l s k i.toNatClampNeg x) h.1
    rw [zs_l_at] at e
    rw [zk_set _ _ _ (zs_l s k i.toNatClampNeg x) hlt (zs_l_ne _ _ _ _).1 (zs_l_ne _ _ _ _).2 e.symm] at hP hD
    exact kk _ rr hrr H1 locs1 ls hl ⟨hP, hD, hS⟩
  · rw [zw_l, if_neg h] at hrr; cases hrr
theorem zv_alen {k : Nat} {f : Int32 → Option (ρ × zS)} (hX : zx_ok X cc own nL) (d : decode cc pc = .ok (.arraylength, 1)) (kk : ∀ x, zV X Q nL (pc + 1) lv (.int x :: st) s (f x)) : zV X Q nL pc lv (.ref (zx_ad X k) :: st) s (if zk_d k = 0 then zb (nI (zk_n k)) f else none) := by
  intro rr hrr H locs ls hl hw
  by_cases h : zk_d k = 0
  · rw [if_pos h] at hrr
    exact va_alen (x := (zk_n k, .inl (s.1 k))) (v := nI (zk_n k)) hX.1 hX.2.1 hX.2.2.2.2.2.1 hw.1 k 0 ((zk_get _ _ _ (zk_lt h (by omega))).trans (by rw [zk_eI _ _ _ h (by omega)])) rfl rfl d (kk _ rr hrr H locs ls hl hw)
  · rw [if_neg h] at hrr; cases hrr
theorem zv_copy {a b n : Nat} {sp dp m : Int32} {f : zS → Option (ρ × zS)} (hX : zx_ok X cc own nL) (h1 : Cond.methodLink own n arraycopyName ∈ zw_T) (h2 : Cond.native arraycopyName ∈ zw_T) (h3 : Cond.static arraycopyName ∈ zw_T) (h4 : Cond.initialized "java/lang/System" ∈ zw_T) (hfr : 1 ≤ (zx_R X).frames) (hlo : (st.map fun v => v.category).sum + (nativeFrameWords "java/lang/System" "arraycopy" 5 + 11) ≤ (zx_R X).locals) (d : decode cc pc = .ok (.invokestatic n, 3)) (kk : ∀ s2, zV X Q nL (pc + 3) lv st s2 (f s2)) : zV X Q nL pc lv (.int m :: .int dp :: .ref (zx_ad X b) :: .int sp :: .ref (zx_ad X a) :: st) s ((zw_c s a sp b dp m).bind f) := by
  intro rr hrr H locs ls hl hw
  by_cases h : (zk_d a = 0 ∧ zk_d b = 0) ∧ (¬ sp < 0 ∧ ¬ dp < 0 ∧ ¬ m < 0) ∧ sp.toNatClampNeg + m.toNatClampNeg ≤ zk_n a ∧ dp.toNatClampNeg + m.toNatClampNeg ≤ zk_n b
  · rw [zw_c, if_pos h] at hrr
    have ha := zk_lt h.1.1 (by omega)
    have hb := zk_lt h.1.2 (by omega)
    refine va_copyi hX.1 hX.2.1 (hX.2.2.2.1.trans hl.1.symm) hX.2.2.1 (hX.2.2.2.2.1 _ h1) (hX.2.2.2.2.1 _ h2) (hX.2.2.2.2.1 _ h3) (hX.2.2.2.2.1 _ h4) hX.2.2.2.2.2.1 hw.1 hw.2.1 hw.2.2 a b 0 0 ((zk_get _ _ _ ha).trans (by rw [zk_eI _ _ _ h.1.1 (by omega)])) ((zk_get _ _ _ hb).trans (by rw [zk_eI _ _ _ h.1.2 (by omega)])) rfl rfl rfl h.2.1.1 h.2.1.2.1 h.2.1.2.2 h.2.2.1 h.2.2.2 (fun _ _ => rfl) hfr hlo d (fun H1 locs1 hP hD hS => ?_)
    have e := zk_eI (zx_cy X) (zx_ad X) (zs_c s a sp.toNatClampNeg b dp.toNatClampNeg m.toNatClampNeg) h.1.2 (by omega)
    rw [show (zs_c s a sp.toNatClampNeg b dp.toNatClampNeg m.toNatClampNeg).1 b = va_cpy (s.1 a) (s.1 b) sp.toNatClampNeg dp.toNatClampNeg m.toNatClampNeg by simp [zs_c]] at e
    rw [zk_set (zx_cy X) (zx_ad X) s (zs_c s a sp.toNatClampNeg b dp.toNatClampNeg m.toNatClampNeg) hb (fun q hq => by simp [zs_c, hq]) (fun q _ => rfl) e.symm] at hP hD
    exact kk _ rr hrr H1 locs1 ls hl ⟨hP, hD, hS⟩
  · rw [zw_c, if_neg h] at hrr; cases hrr
/-- a value that is stored gets a name -/
theorem zv_istB_n {n : Fin 4} {x : Int32} {f : Int32 → Option (ρ × zS)} {lw : Int32 → List (Nat × Value)} (hX : zx_ok X cc own nL) (d : decode cc pc = .ok (.istore_n n, 1)) (hn : (n : Nat) < nL) (hl : ∀ x, ((n : Nat), Value.int x) :: lv.filter (fun q => !(q.1 == (n : Nat)) && !(q.1 + 1 == (n : Nat) && q.2.category == 2)) = lw x) (k : ∀ x, zV X Q nL (pc + 1) (lw x) st s (f x)) : zV X Q nL pc lv (.int x :: st) s (zb x f) := zv_istore_n hX d hn (hl x) (k x)
theorem zv_istB {n : Nat} {x : Int32} {f : Int32 → Option (ρ × zS)} {lw : Int32 → List (Nat × Value)} (hX : zx_ok X cc own nL) (d : decode cc pc = .ok (.istore n, 2)) (hn : n < nL) (hl : ∀ x, (n, Value.int x) :: lv.filter (fun q => !(q.1 == n) && !(q.1 + 1 == n && q.2.category == 2)) = lw x) (k : ∀ x, zV X Q nL (pc + 2) (lw x) st s (f x)) : zV X Q nL pc lv (.int x :: st) s (zb x f) := zv_istore hX d hn (hl x) (k x)
theorem zv_iincB {n : Nat} {z : Int} {x w : Int32} {f : Int32 → Option (ρ × zS)} {lw : Int32 → List (Nat × Value)} (hX : zx_ok X cc own nL) (d : decode cc pc = .ok (.iinc n z, 3)) (p : Nat) (hp : lv[p]? = some (n, .int x)) (hz : Int32.ofInt z = w) (hn : n < nL) (hl : ∀ v, (n, Value.int v) :: lv.filter (fun q => !(q.1 == n) && !(q.1 + 1 == n && q.2.category == 2)) = lw v) (k : ∀ v, zV X Q nL (pc + 3) (lw v) st s (f v)) : zV X Q nL pc lv st s (zb (x + w) f) := zv_iinc hX d p hp (by rw [hz]) hn (hl _) (k _)
theorem zv_lstB_n {n : Fin 4} {x : Int64} {f : Int64 → Option (ρ × zS)} {lw : Int64 → List (Nat × Value)} (hX : zx_ok X cc own nL) (d : decode cc pc = .ok (.lstore_n n, 1)) (hn : (n : Nat) + 1 < nL) (hl : ∀ x, ((n : Nat), Value.long x) :: lv.filter (fun q => !(q.1 == (n : Nat)) && (!(q.1 == (n : Nat) + 1) && !(q.1 + 1 == (n : Nat) && q.2.category == 2))) = lw x) (k : ∀ x, zV X Q nL (pc + 1) (lw x) st s (f x)) : zV X Q nL pc lv (.long x :: st) s (zb x f) := zv_lstore_n hX d hn (hl x) (k x)
theorem zv_lstB {n : Nat} {x : Int64} {f : Int64 → Option (ρ × zS)} {lw : Int64 → List (Nat × Value)} (hX : zx_ok X cc own nL) (d : decode cc pc = .ok (.lstore n, 2)) (hn : n + 1 < nL) (hl : ∀ x, (n, Value.long x) :: lv.filter (fun q => !(q.1 == n) && (!(q.1 == n + 1) && !(q.1 + 1 == n && q.2.category == 2))) = lw x) (k : ∀ x, zV X Q nL (pc + 2) (lw x) st s (f x)) : zV X Q nL pc lv (.long x :: st) s (zb x f) := zv_lstore hX d hn (hl x) (k x)
/-- division by what may be 0 -/
theorem zv_idivB {x y : Int32} (hX : zx_ok X cc own nL) (d : decode cc pc = .ok (.idiv, 1)) (k : zV X Q nL (pc + 1) lv (.int (x / y) :: st) s o) : zV X Q nL pc lv (.int y :: .int x :: st) s (if y = 0 then none else o) := zv_ite (fun _ => zv_none) (fun h => zv_idiv hX d h k)
theorem zv_iremB {x y : Int32} (hX : zx_ok X cc own nL) (d : decode cc pc = .ok (.irem, 1)) (k : zV X Q nL (pc + 1) lv (.int (zo_rem x y) :: st) s o) : zV X Q nL pc lv (.int y :: .int x :: st) s (if y = 0 then none else o) := zv_ite (fun _ => zv_none) (fun h => zv_irem hX d h k)
/-- statics and texts -/
theorem zv_gsR (hX : zx_ok X cc "RingSign$Reader" nL) (d : decode cc pc = .ok (.getstatic 129, 3)) (k : zV X Q nL (pc + 3) lv (.ref (zx_tv X 0) :: st) s o) : zV X Q nL pc lv st s o := fun rr hr H locs ls hv hw => va_getsN hX.1 hX.2.1 hX.2.2.2.2.2.2.1.1.1 hw.2.2 hX.2.2.1 (va_Nw.use rfl hX.2.2.2.2.2.2.1.2.2.2.2.2.2.2.2.1) (fun _ h => h) d (k rr hr H locs ls hv hw)
theorem zv_gsP (hX : zx_ok X cc "RingSign$Rings" nL) (d : decode cc pc = .ok (.getstatic 89, 3)) (k : zV X Q nL (pc + 3) lv (.ref (zx_tv X 1) :: st) s o) : zV X Q nL pc lv st s o := fun rr hr H locs ls hv hw => va_getsN hX.1 hX.2.1 hX.2.2.2.2.2.2.1.2.1.1 hw.2.2 hX.2.2.1 (va_Nw.use rfl hX.2.2.2.2.2.2.1.2.2.2.2.2.2.2.2.2.1) (fun _ h => h) d (k rr hr H locs ls hv hw)
theorem zv_taldR {i : Int32} {f : Int32 → Option (ρ × zS)} (hX : zx_ok X cc own nL) (d : decode cc pc = .ok (.iaload, 1)) (kk : ∀ x, zV X Q nL (pc + 1) lv (.int x :: st) s (f x)) : zV X Q nL pc lv (.int i :: .ref (zx_tv X 0) :: st) s ((zr_t 0 i).bind f) := by
  intro rr hrr H locs ls hl hw
  by_cases h : ¬ (i < 0 ∨ (zt_row 0).length ≤ i.toNatClampNeg)
  · rw [zr_t, if_pos h] at hrr
    exact va_ti hX.1 hX.2.1 hX.2.2.2.2.2.2.1.1.2 hw.2.2 h rfl d (kk _ rr hrr H locs ls hl hw)
  · rw [zr_t, if_neg h] at hrr; cases hrr
theorem zv_taldP {i : Int32} {f : Int32 → Option (ρ × zS)} (hX : zx_ok X cc own nL) (d : decode cc pc = .ok (.iaload, 1)) (kk : ∀ x, zV X Q nL (pc + 1) lv (.int x :: st) s (f x)) : zV X Q nL pc lv (.int i :: .ref (zx_tv X 1) :: st) s ((zr_t 1 i).bind f) := by
  intro rr hrr H locs ls hl hw
  by_cases h : ¬ (i < 0 ∨ (zt_row 1).length ≤ i.toNatClampNeg)
  · rw [zr_t, if_pos h] at hrr
    exact va_ti hX.1 hX.2.1 hX.2.2.2.2.2.2.1.2.1.2 hw.2.2 h rfl d (kk _ rr hrr H locs ls hl hw)
  · rw [zr_t, if_neg h] at hrr; cases hrr
theorem zv_gsC {n : Nat} (hX : zx_ok X cc own nL) (hl : Cond.fieldLink own n "java/lang/String" "COMPACT_STRINGS" "Z" ∈ zw_T) (d : decode cc pc = .ok (.getstatic n, 3)) (k : zV X Q nL (pc + 3) lv (.int 1 :: st) s o) : zV X Q nL pc lv st s o := fun rr hr H locs ls hv hw => va_gets hX.1 hX.2.1 hX.2.2.2.2.2.2.1.2.2.1 hw.2.2 hX.2.2.1 (hX.2.2.2.2.1 _ hl) (fun _ h => h) d (k rr hr H locs ls hv hw)
theorem zv_gsF {n : Nat} (hX : zx_ok X cc own nL) (hl : Cond.fieldLink own n "jdk/internal/util/Preconditions" "SIOOBE_FORMATTER" "Ljava/util/function/BiFunction;" ∈ zw_T) (d : decode cc pc = .ok (.getstatic n, 3)) (k0 : zV X Q nL (pc + 3) lv (.null :: st) s o) (k1 : zV X Q nL (pc + 3) lv (.ref (zx_tv X 30) :: st) s o) : zV X Q nL pc lv st s o := by
  intro rr hr H locs ls hv hw
  rcases hX.2.2.2.2.2.2.1.2.2.2.2.2.2.2.2.2.2 with z | z
  · exact va_gets hX.1 hX.2.1 z hw.2.2 hX.2.2.1 (hX.2.2.2.2.1 _ hl) (fun _ h => h) d (k0 rr hr H locs ls hv hw)
  · exact va_gets hX.1 hX.2.1 z hw.2.2 hX.2.2.1 (hX.2.2.2.2.1 _ hl) (fun _ h => h) d (k1 rr hr H locs ls hv hw)
theorem zv_ldcW (hX : zx_ok X cc "RingSign$Reader" nL) (d : decode cc pc = .ok (.ldc 84, 2)) (k : zV X Q nL (pc + 2) lv (.ref (zx_tv X 10) :: st) s o) : zV X Q nL pc lv st s o := fun rr hr H locs ls hv hw => va_ldcS hX.1 hX.2.1 hX.2.2.1 hX.2.2.2.2.2.2.1.2.2.2.2.1 d (k rr hr H locs ls hv hw)
theorem zv_ldcT (hX : zx_ok X cc "RingSign$Reader" nL) (d : decode cc pc = .ok (.ldc 76, 2)) (k : zV X Q nL (pc + 2) lv (.ref (zx_tv X 11) :: st) s o) : zV X Q nL pc lv st s o := fun rr hr H locs ls hv hw => va_ldcS hX.1 hX.2.1 hX.2.2.1 hX.2.2.2.2.2.2.1.2.2.2.2.2.1 d (k rr hr H locs ls hv hw)
theorem zv_ldcK (hX : zx_ok X cc "RingSignModel" nL) (d : decode cc pc = .ok (.ldc 98, 2)) (k : zV X Q nL (pc + 2) lv (.ref (zx_tv X 12) :: st) s o) : zV X Q nL pc lv st s o := fun rr hr H locs ls hv hw => va_ldcS hX.1 hX.2.1 hX.2.2.1 hX.2.2.2.2.2.2.1.2.2.2.2.2.2.1 d (k rr hr H locs ls hv hw)
theorem zv_ldcG (hX : zx_ok X cc "RingSignModel" nL) (d : decode cc pc = .ok (.ldc 136, 2)) (k : zV X Q nL (pc + 2) lv (.ref (zx_tv X 11) :: st) s o) : zV X Q nL pc lv st s o := fun rr hr H locs ls hv hw => va_ldcS hX.1 hX.2.1 hX.2.2.1 hX.2.2.2.2.2.2.1.2.2.2.2.2.2.2.1 d (k rr hr H locs ls hv hw)
theorem zv_sval {n i : Nat} (hX : zx_ok X cc own nL) (hi : i < 3) (hl : Cond.fieldLink own n "java/lang/String" "value" "[B" ∈ zw_T) (d : decode cc pc = .ok (.getfield n, 3)) (k : zV X Q nL (pc + 3) lv (.ref (zx_tv X (20 + i)) :: st) s o) : zV X Q nL pc lv (.ref (zx_tv X (10 + i)) :: st) s o := by
  intro rr hr H locs ls hv hw
  obtain ⟨cf, q, fi, f, cell, h1, h2, h3, h4, h5, h6⟩ := ((hX.2.2.2.2.2.2.1.2.2.2.1.1 i hi).2.2.1).kept hw.2.2.2.1
  exact W.getf hX.1 hX.2.1 hX.2.2.1 (hX.2.2.2.2.1 _ hl) h1 h2 h3 h4 (v := .ref (zx_tv X (20 + i))) h5 rfl rfl d (k rr hr H locs ls hv hw)
theorem zv_scod {n i : Nat} (hX : zx_ok X cc own nL) (hi : i < 3) (hl : Cond.fieldLink own n "java/lang/String" "coder" "B" ∈ zw_T) (d : decode cc pc = .ok (.getfield n, 3)) (k : zV X Q nL (pc + 3) lv (.int 0 :: st) s o) : zV X Q nL pc lv (.ref (zx_tv X (10 + i)) :: st) s o := by
  intro rr hr H locs ls hv hw
  obtain ⟨cf, q, fi, f, cell, h1, h2, h3, h4, h5, h6⟩ := ((hX.2.2.2.2.2.2.1.2.2.2.1.1 i hi).2.1).kept hw.2.2.2.1
  exact W.getf hX.1 hX.2.1 hX.2.2.1 (hX.2.2.2.2.1 _ hl) h1 h2 h3 h4 (v := .int 0) h5 rfl rfl d (k rr hr H locs ls hv hw)
theorem zv_syld {j : Nat} {i : Int32} {f : Int32 → Option (ρ × zS)} (hX : zx_ok X cc own nL) (d : decode cc pc = .ok (.baload, 1)) (kk : ∀ x, zV X Q nL (pc + 1) lv (.int x :: st) s (f x)) : zV X Q nL pc lv (.int i :: .ref (zx_tv X (20 + j)) :: st) s ((zr_y j i).bind f) := by
  intro rr hrr H locs ls hl hw
  by_cases h : j < 3 ∧ ¬ (i < 0 ∨ zt_len.getD j 0 ≤ i.toNatClampNeg)
  · rw [zr_y, if_pos h] at hrr
    exact va_tb hX.1 hX.2.1 (hX.2.2.2.2.2.2.1.2.2.2.1.1 j h.1).2.2.2 hw.2.2 h.2 rfl d (kk _ rr hrr H locs ls hl hw)
  · rw [zr_y, if_neg h] at hrr; cases hrr
theorem zv_sylen {j : Nat} (hX : zx_ok X cc own nL) (hj : j < 3) (d : decode cc pc = .ok (.arraylength, 1)) (kk : zV X Q nL (pc + 1) lv (.int (nI (zt_len.getD j 0)) :: st) s o) : zV X Q nL pc lv (.ref (zx_tv X (20 + j)) :: st) s o := fun rr hr H locs ls hl hw => va_tlen hX.1 hX.2.1 (hX.2.2.2.2.2.2.1.2.2.2.1.1 j hj).2.2.2 hw.2.2 rfl d (kk rr hr H locs ls hl hw)
end ZH

