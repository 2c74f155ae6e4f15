/-- one with whom it is, or nobody -/
def oI : Option Nat → Int32
  | none => -1
  | some k => nI k
def zlo (G M : Nat → Nat) (c1 : List Nat) (p q : Nat) : Option Nat → Bool
  | none => true
  | some r => zlm G M c1 p q r
def zbk (G M : Nat → Nat) (c0 c1 : List Nat) (w : Nat → Option Nat) (p q : Nat) : Bool := zmt G M c0 c1 p q && (decide (w p ≠ some q) && (zlo G M c1 p q (w p) && zlo G M c1 q p (w q)))
def zls (G M : Nat → Nat) (c1 : List Nat) (p q r : Nat) : Bool := decide (r ≠ p) && (decide (r ≠ q) && zlm G M c1 p q r)
theorem zlm_self (G M : Nat → Nat) (c1 : List Nat) (p q : Nat) : zlm G M c1 p q q = false := by
  unfold zlm
  simp
theorem zls_eq {G M : Nat → Nat} {c1 : List Nat} {p q r : Nat} (h : r ≠ p) : zls G M c1 p q r = zlm G M c1 p q r := by
  unfold zls
  by_cases e : r = q
  · subst e; rw [zlm_self]; simp
  · simp [h, e]
theorem zmt_sym (G M : Nat → Nat) (c0 c1 : List Nat) (p q : Nat) : zmt G M c0 c1 p q = zmt G M c0 c1 q p := by
  unfold zmt
  rw [zc2_sym G p q, Nat.add_comm (zpc 9 (G p))]
  by_cases e : p = q
  · subst e; rfl
  · have e2 : ¬ q = p := fun z => e z.symm
    simp only [ne_eq, e, e2, not_false_eq_true, decide_true, Bool.true_and]
    cases decide (0 < zlk G M c1 p q) <;> cases decide (0 < zlk G M c1 q p) <;> rfl
/-- the first of some -/
def zfo {R : Type} (f : Nat → Option R) : Nat → Nat → Option R
  | 0, _ => none
  | k + 1, i => match f i with
    | some r => some r
    | none => zfo f k (i + 1)
theorem zfo_congr {R : Type} {f g : Nat → Option R} : ∀ (k i : Nat), (∀ j, i ≤ j → j < i + k → f j = g j) → zfo f k i = zfo g k i := by
  intro k
  induction k with
  | zero => intro i _; rfl
  | succ k ih =>
    intro i h
    rw [zfo, zfo, h i (Nat.le_refl _) (by omega), ih (i + 1) (fun j h1 h2 => h j (by omega) (by omega))]
theorem zsr {R : Type} (O : Nat → Nat → R) (lo N : Nat) (f : Nat → Option R) (E : R) (hs : ∀ q i, lo ≤ i → i < N → O (q + 1) i = (f i).getD (O q (i + 1))) (hx : ∀ q, O (q + 1) N = E) : ∀ (k i q : Nat), lo ≤ i → i + k = N → k < q → O q i = (zfo f k i).getD E := by
  intro k
  induction k with
  | zero =>
    intro i q hl hi hq
    obtain ⟨q, rfl⟩ : ∃ r, q = r + 1 := ⟨q - 1, by omega⟩
    have e : i = N := by omega
    subst e
    exact hx q
  | succ k ih =>
    intro i q hl hi hq
    obtain ⟨q, rfl⟩ : ∃ r, q = r + 1 := ⟨q - 1, by omega⟩
    rw [hs q i hl (by omega), zfo]
    cases f i with
    | some r => rfl
    | none => exact ih (i + 1) q (by omega) (by omega) (by omega)
theorem zfo_map {R T : Type} (f : Nat → Option R) (g : R → T) : ∀ (k i : Nat), zfo (fun j => (f j).map g) k i = (zfo f k i).map g := by
  intro k
  induction k with
  | zero => intro i; rfl
  | succ k ih =>
    intro i
    rw [zfo, zfo]
    cases f i with
    | some r => rfl
    | none => exact ih (i + 1)
/-- two loops, one in the other, the inner from a place on -/
theorem zlp3 {R K : Type} (O : Nat → K) (ap : K → Int32 → zS → R) (I : K → Nat → Int32 → Int32 → zS → R) (N : Nat) (hN : N ≤ 1000) (st : Nat → Nat) (hst : ∀ p, p < N → st p ≤ N) (OI : Nat → zS → Prop) (II : Nat → Nat → zS → Prop)
    (hO : ∀ q p s, p < N → OI p s → ∃ s', ap (O (q + 1)) (nI p) s = I (O q) zFU (nI p) (nI (st p)) s' ∧ II p (st p) s')
    (hI : ∀ kb q p j s, p < N → st p ≤ j → j < N → II p j s → ∃ s', I kb (q + 1) (nI p) (nI j) s = I kb q (nI p) (nI (j + 1)) s' ∧ II p (j + 1) s')
    (hE : ∀ kb q p s, p < N → II p N s → ∃ s', I kb (q + 1) (nI p) (nI N) s = ap kb (nI (p + 1)) s' ∧ OI (p + 1) s') (s : zS) (h0 : OI 0 s) :
    ∃ q' s', ap (O zFU) 0 s = ap (O (q' + 1)) (nI N) s' ∧ OI N s' := by
  have inner : ∀ kb p, p < N → ∀ (k j q : Nat) (s : zS), st p ≤ j → j + k = N → k < q → II p j s → ∃ s', I kb q (nI p) (nI j) s = ap kb (nI (p + 1)) s' ∧ OI (p + 1) s' := by
    intro kb p hp k
    induction k with
    | zero =>
      intro j q s hj hk hq h
      obtain ⟨q, rfl⟩ : ∃ r, q = r + 1 := ⟨q - 1, by omega⟩
      have e : j = N := by omega
      subst e
      exact hE kb q p s hp h
    | succ k ih =>
      intro j q s hj hk hq h
      obtain ⟨q, rfl⟩ : ∃ r, q = r + 1 := ⟨q - 1, by omega⟩
      obtain ⟨s', g1, g2⟩ := hI kb q p j s hp hj (by omega) h
      rw [g1]
      exact ih (j + 1) q s' (by omega) (by omega) (by omega) g2
  have K := zlp (fun q i s => ap (O q) (nI i) s) N (fun i s => OI i s) (fun q i s hi h => by
    show ∃ a', ap (O (q + 1)) (nI i) s = ap (O q) (nI (i + 1)) a' ∧ OI (i + 1) a'
    obtain ⟨s', g1, g2⟩ := hO q i s hi h
    have := hst i hi
    rw [g1]
    exact inner (O q) i hi (N - st i) (st i) zFU s' (Nat.le_refl _) (by omega) (by show N - st i < 5000; omega) g2) N 0 zFU s (by omega) (by show N < 5000; omega) h0
  exact K
def zaa (A B : Nat → Nat) : Nat := zsum 7 (fun p => A p + B p)
theorem zaa_le {s : zS} {A B : Nat → Nat} (hA : JA s A B) : zaa A B < 2 ^ 28 ∧ 7 ≤ zaa A B := by
  have h0 := hA 0 (by decide)
  have h1 := hA 1 (by decide)
  have h2 := hA 2 (by decide)
  have h3 := hA 3 (by decide)
  have h4 := hA 4 (by decide)
  have h5 := hA 5 (by decide)
  have h6 := hA 6 (by decide)
  have e : zaa A B = 0 + (A 0 + B 0) + (A 1 + B 1) + (A 2 + B 2) + (A 3 + B 3) + (A 4 + B 4) + (A 5 + B 5) + (A 6 + B 6) := rfl
  omega
theorem aall7 {s : zS} {A B : Nat → Nat} (hA : JA s A B) : f_X0_ageOfAll s = some (nI (zaa A B), s) := by
  obtain ⟨q', u, g1, -⟩ := zlp (fun q i (_ : Unit) => f_X0_ageOfAll_4 q (nI (zsum i (fun p => A p + B p))) (nI i) s) 7 (fun _ _ => True)
    (fun q i _ hi _ => by
      refine ⟨(), ?_, trivial⟩
      show f_X0_ageOfAll_4 (q + 1) (nI (zsum i (fun p => A p + B p))) (nI i) s = f_X0_ageOfAll_4 q (nI (zsum i (fun p => A p + B p) + (A i + B i))) (nI (i + 1)) s
      rw [f_X0_ageOfAll_4, if_neg (nI_ge hi (by omega)), age7 hA hi, zbd_some, zb_eq, zb_eq, nI_add, nI_1]) 7 0 zFU () (by decide) (by decide) trivial
  have g1' : f_X0_ageOfAll s = f_X0_ageOfAll_4 (q' + 1) (nI (zaa A B)) (nI 7) s := g1
  rw [g1', f_X0_ageOfAll_4, if_pos (nI_le (Nat.le_refl _) (by omega))]
/-- who matches whom is known -/
def JM (s : zS) (n : Nat) (G M : Nat → Nat) (c0 c1 : List Nat) : Prop := ∀ p, p < n → s.1 61 p = nI (zbs (zmt G M c0 c1 p) n) ∧ ∀ q, q < n → q ≠ p → s.1 62 (7 * p + q) = nI (zbs (zls G M c1 p q) n)
def JC5 (s : zS) (n : Nat) (G M : Nat → Nat) (c0 c1 : List Nat) (A B : Nat → Nat) : Prop := CA (s.1 60 4) (zaa A B) (JM s n G M c0 c1)
theorem JM.keep {s t : zS} {S : List Nat} {n : Nat} {G M : Nat → Nat} {c0 c1 : List Nat} (h : JM s n G M c0 c1) (hk : zk_k S s t) (hd : 61 ∉ S ∧ 62 ∉ S) : JM t n G M c0 c1 := by
  unfold JM
  rw [(hk 61 hd.1).1, (hk 62 hd.2).1]
  exact h
theorem JC5.keep {s t : zS} {S : List Nat} {n : Nat} {G M A B : Nat → Nat} {c0 c1 : List Nat} (h : JC5 s n G M c0 c1 A B) (hk : zk_k S s t) (hd : 60 ∉ S ∧ 61 ∉ S ∧ 62 ∉ S) : JC5 t n G M c0 c1 A B := by
  unfold JC5
  rw [(hk 60 hd.1).1]
  exact h.mono (fun z => z.keep hk hd.2)
def BC : List Nat := [60, 61, 62, 42, 43, 44, 45, 47, 48, 49, 50, 51, 53, 54, 55, 56, 57, 58, 59]
section BONDS7
variable {n : Nat} {G M A B : Nat → Nat} {c0 c1 : List Nat} {s : zS}
theorem less7 (hJ : JR s n G M c0 c1 A B) {p q : Nat} (hp : p < n) (hq : q < n) (hpq : p ≠ q) : ∃ s', f_X0_learnLess (nI p) (nI q) s = some ((), s') ∧ JR s' n G M c0 c1 A B ∧ s'.1 62 (7 * p + q) = nI (zbs (zls G M c1 p q) n) ∧ (∀ j, j ≠ 7 * p + q → s'.1 62 j = s.1 62 j) ∧ zk_k (62 :: RC) s s' := by
  have hn := hJ.1.1.1
  obtain ⟨q', t, g1, g2, g3⟩ := zlp (fun r i t => f_X0_learnLess_5 r (nI p) (nI q) (nI (zbs (zls G M c1 p q) i)) (nI i) t) n (fun i t => JR t n G M c0 c1 A B ∧ zk_k RC s t)
    (fun r i t hi h => by
      show ∃ a', f_X0_learnLess_5 (r + 1) (nI p) (nI q) (nI (zbs (zls G M c1 p q) i)) (nI i) t = f_X0_learnLess_5 r (nI p) (nI q) (nI (zbs (zls G M c1 p q) (i + 1))) (nI (i + 1)) a' ∧ _
      have hl := zbs_lt (zls G M c1 p q) i
      have h7 : 2 ^ i ≤ 2 ^ 7 := Nat.pow_le_pow_right (by decide) (by omega)
      rw [f_X0_learnLess_5, h.1.1.1.2.1, if_neg (nI_ge hi (by omega)), zbs]
      by_cases e1 : i = p
      · rw [if_pos (by rw [e1]), f_X0_learnLess_47, zb_eq, nI_1, show zls G M c1 p q i = false by unfold zls; simp [e1]]
        exact ⟨t, rfl, h⟩
      · rw [if_neg (ne_of_nI e1 (by omega) (by omega))]
        by_cases e2 : i = q
        · rw [if_pos (by rw [e2]), f_X0_learnLess_47, zb_eq, nI_1, show zls G M c1 p q i = false by unfold zls; simp [e2]]
          exact ⟨t, rfl, h⟩
        · rw [if_neg (ne_of_nI e2 (by omega) (by omega))]
          obtain ⟨t2, a1, a2, a3⟩ := more7 h.1 hp hq hi hpq (Ne.symm e1)
          rw [a1, zbd_some, zls_eq e1]
          by_cases hm : zlm G M c1 p q i = true
          · rw [if_pos hm, if_pos hm, if_neg (by decide), one_shl i (by omega), zb_eq, or_bit i (by omega) _ (by omega) hl, f_X0_learnLess_47, zb_eq, nI_1]
            exact ⟨t2, rfl, a2, h.2.tr a3⟩
          · rw [if_neg hm, if_neg hm, if_pos rfl, f_X0_learnLess_47, zb_eq, nI_1]
            exact ⟨t2, rfl, a2, h.2.tr a3⟩) n 0 zFU s (by omega) (by show n < 5000; omega) ⟨hJ, zk_k.rf⟩
  have g1' : f_X0_learnLess (nI p) (nI q) s = f_X0_learnLess_5 (q' + 1) (nI p) (nI q) (nI (zbs (zls G M c1 p q) n)) (nI n) t := g1
  rw [g1', f_X0_learnLess_5, g2.1.1.2.1, if_pos (nI_le (Nat.le_refl _) (by omega)), wr_62 t (7 * p + q) (by rw [pk_mul, nI_add, Nat.mul_comm]) (by omega), Option.bind_some]
  refine ⟨_, rfl, g2.keep (zk_k.rf.i (S := [62]) (by simp)) (by decide), zs_i_v _ _ _ _, fun j hj => ?_, (g3.mono (by decide)).i (by simp)⟩
  rw [zs_i_o _ _ _ _ _ hj, (g3 62 (by decide)).1]
theorem learn7 (hJ : JR s n G M c0 c1 A B) (hC : JC5 s n G M c0 c1 A B) : ∃ s', f_X0_learnMatches s = some ((), s') ∧ JR s' n G M c0 c1 A B ∧ JC5 s' n G M c0 c1 A B ∧ JM s' n G M c0 c1 ∧ zk_k BC s s' ∧ ∀ j, j ≠ 4 → s'.1 60 j = s.1 60 j := by
  have hn := hJ.1.1.1
  have hag := zaa_le hJ.1.2.1
  unfold f_X0_learnMatches
  rw [aall7 hJ.1.2.1, zbd_some]
  by_cases hh : s.1 60 4 = nI (zaa A B)
  · rw [if_neg (fun z => z hh)]
    exact ⟨s, rfl, hJ, hC, hC.hit (by omega) hh, zk_k.rf, fun _ _ => rfl⟩
  rw [if_pos hh, zb_eq]
  have k0 : zk_k [60] s (zs_i s 60 4 (nI (zaa A B))) := zk_k.rf.i (by simp)
  obtain ⟨q', t, g1, g2, g3, g4⟩ := zlp3 f_X0_learnMatches_21 (fun k p s => k p s) f_X0_learnMatches_41 n (by omega) (fun _ => 0) (fun _ _ => Nat.zero_le _)
    (fun p t => JR t n G M c0 c1 A B ∧ zk_k (61 :: 62 :: RC) (zs_i s 60 4 (nI (zaa A B))) t ∧ ∀ a, a < p → t.1 61 a = nI (zbs (zmt G M c0 c1 a) n) ∧ ∀ b, b < n → b ≠ a → t.1 62 (7 * a + b) = nI (zbs (zls G M c1 a b) n))
    (fun p j t => JR t n G M c0 c1 A B ∧ zk_k (61 :: 62 :: RC) (zs_i s 60 4 (nI (zaa A B))) t ∧ (∀ a, a < p → t.1 61 a = nI (zbs (zmt G M c0 c1 a) n) ∧ ∀ b, b < n → b ≠ a → t.1 62 (7 * a + b) = nI (zbs (zls G M c1 a b) n)) ∧ t.1 61 p = nI (zbs (zmt G M c0 c1 p) j) ∧ ∀ b, b < j → b ≠ p → t.1 62 (7 * p + b) = nI (zbs (zls G M c1 p b) n))
    (fun q p t hp h => by
      obtain ⟨h1, h2, h3⟩ := h
      show ∃ s', f_X0_learnMatches_21 (q + 1) (nI p) t = _ ∧ _
      rw [f_X0_learnMatches_21, h1.1.1.2.1, if_neg (nI_ge hp (by omega)), wr_61 t p rfl (by omega), Option.bind_some]
      refine ⟨_, rfl, h1.keep (zk_k.rf.i (S := [61]) (by simp)) (by decide), h2.i (by simp), fun a ha => ?_, zs_i_v _ _ _ _, fun b hb => by omega⟩
      rw [zs_i_o _ _ _ _ _ (by omega), zs_i_n _ _ _ _ _ (by decide)]
      exact h3 a ha)
    (fun kb q p j t hp _ hj h => by
      obtain ⟨h1, h2, h3, h4, h5⟩ := h
      have hl := zbs_lt (zmt G M c0 c1 p) j
      have h7 : 2 ^ j ≤ 2 ^ 7 := Nat.pow_le_pow_right (by decide) (by omega)
      rw [f_X0_learnMatches_41, h1.1.1.2.1, if_neg (nI_ge hj (by omega))]
      by_cases e : j = p
      · rw [if_pos (by rw [e]), f_X0_learnMatches_88, zb_eq, nI_1]
        refine ⟨t, rfl, h1, h2, h3, ?_, fun b hb hne => h5 b (by omega) hne⟩
        rw [h4, zbs, show zmt G M c0 c1 p j = false by unfold zmt; simp [e]]
        rfl
      · obtain ⟨t2, a1, a2, a3⟩ := match7 h1 hp hj (Ne.symm e)
        have e61 : t2.1 61 = t.1 61 := (a3 61 (by decide)).1
        have e62 : t2.1 62 = t.1 62 := (a3 62 (by decide)).1
        have fin : ∀ w0 : Int32, (nI (zbs (zmt G M c0 c1 p) j) ||| w0) = nI (zbs (zmt G M c0 c1 p) (j + 1)) → ∃ s', f_X0_learnMatches_80 kb (f_X0_learnMatches_41 kb q) (nI p) (nI j) w0 (nI (zbs (zmt G M c0 c1 p) j)) (nI p) t2 = f_X0_learnMatches_41 kb q (nI p) (nI (j + 1)) s' ∧ (JR s' n G M c0 c1 A B ∧ zk_k (61 :: 62 :: RC) (zs_i s 60 4 (nI (zaa A B))) s' ∧ (∀ a, a < p → s'.1 61 a = nI (zbs (zmt G M c0 c1 a) n) ∧ ∀ b, b < n → b ≠ a → s'.1 62 (7 * a + b) = nI (zbs (zls G M c1 a b) n)) ∧ s'.1 61 p = nI (zbs (zmt G M c0 c1 p) (j + 1)) ∧ ∀ b, b < j + 1 → b ≠ p → s'.1 62 (7 * p + b) = nI (zbs (zls G M c1 p b) n)) := by
          intro w0 hw
          obtain ⟨t3, b1, b2, b3, b4, b5⟩ := less7 (a2.keep (zk_k.rf.i (S := [61]) (k := 61) (j := p) (v := nI (zbs (zmt G M c0 c1 p) (j + 1))) (by simp)) (by decide)) hp hj (Ne.symm e)
          rw [f_X0_learnMatches_80, hw, wr_61 t2 p rfl (by omega), Option.bind_some, b1, zbd_some, f_X0_learnMatches_88, zb_eq, nI_1]
          have f61 : t3.1 61 = (zs_i t2 61 p (nI (zbs (zmt G M c0 c1 p) (j + 1)))).1 61 := (b5 61 (by decide)).1
          have f62 : (zs_i t2 61 p (nI (zbs (zmt G M c0 c1 p) (j + 1)))).1 62 = t.1 62 := by rw [zs_i_n _ _ _ _ _ (by decide), e62]
          refine ⟨t3, rfl, b2, ((h2.tr (a3.mono (by decide))).i (by simp)).tr (b5.mono (by decide)), fun a ha => ⟨?_, fun b hb hne => ?_⟩, by rw [f61, zs_i_v], fun b hb hne => ?_⟩
          · rw [f61, zs_i_o _ _ _ _ _ (by omega), e61]; exact (h3 a ha).1
          · rw [b4 _ (by omega), f62]; exact (h3 a ha).2 b hb hne
          · by_cases e2 : b = j
            · subst e2; exact b3
            · rw [b4 _ (by omega), f62]; exact h5 b (by omega) hne
        rw [if_neg (ne_of_nI e (by omega) (by omega)), rd_61 t p rfl (by omega), Option.bind_some, h4, a1, zbd_some]
        by_cases hm : zmt G M c0 c1 p j = true
        · rw [if_pos hm, if_neg (by decide), one_shl j (by omega)]
          exact fin _ (by rw [or_bit j (by omega) _ (by omega) hl, zbs, if_pos hm])
        · rw [if_neg hm, if_pos rfl]
          exact fin _ (by rw [or_zero, zbs, if_neg hm]))
    (fun kb q p t hp h => by
      obtain ⟨h1, h2, h3, h4, h5⟩ := h
      rw [f_X0_learnMatches_41, h1.1.1.2.1, if_pos (nI_le (Nat.le_refl _) (by omega)), zb_eq, nI_1]
      refine ⟨t, rfl, h1, h2, fun a ha => ?_⟩
      by_cases e : a = p
      · subst e; exact ⟨h4, fun b hb hne => h5 b hb hne⟩
      · exact h3 a (by omega)) (zs_i s 60 4 (nI (zaa A B))) ⟨hJ.keep k0 (by decide), zk_k.rf, fun a ha => by omega⟩
  have g1' : f_X0_learnMatches_21 zFU 0 (zs_i s 60 4 (nI (zaa A B))) = f_X0_learnMatches_21 (q' + 1) (nI n) t := g1
  rw [g1', f_X0_learnMatches_21, g2.1.1.2.1, if_pos (nI_le (Nat.le_refl _) (by omega))]
  have hM : JM t n G M c0 c1 := g4
  have e60 : t.1 60 = (zs_i s 60 4 (nI (zaa A B))).1 60 := (g3 60 (by decide)).1
  exact ⟨t, rfl, g2, CA.now (by rw [e60, zs_i_v]) hM, hM, (k0.mono (by decide)).tr (g3.mono (by decide)), fun j hj => by rw [e60, zs_i_o _ _ _ _ _ hj]⟩
theorem ms7 (hJ : JR s n G M c0 c1 A B) (hC : JC5 s n G M c0 c1 A B) {p : Nat} (hp : p < n) : ∃ s', f_X0_matchesOf (nI p) s = some (nI (zbs (zmt G M c0 c1 p) n), s') ∧ JR s' n G M c0 c1 A B ∧ JC5 s' n G M c0 c1 A B ∧ zk_k BC s s' ∧ ∀ j, j ≠ 4 → s'.1 60 j = s.1 60 j := by
  have hn := hJ.1.1.1
  obtain ⟨s1, a1, a2, a3, a4, a5, a6⟩ := learn7 hJ hC
  rw [f_X0_matchesOf, a1, zbd_some, rd_61 s1 p rfl (by omega), Option.bind_some, (a4 p hp).1]
  exact ⟨s1, rfl, a2, a3, a5, a6⟩
theorem km7 (hn : n ≤ 7) (hM : JM s n G M c0 c1) {p q : Nat} (hp : p < n) (hq : q < n) : f_X0_areKnownToMatch (nI p) (nI q) s = some (if zmt G M c0 c1 p q then 1 else 0, s) := by
  have hl := zbs_lt (zmt G M c0 c1 p) n
  have h7 := pow_128 hn
  unfold f_X0_areKnownToMatch f_X0_areKnownToMatch_19
  rw [rd_61 s p rfl (by omega), Option.bind_some, (hM p hp).1, ush_tb (by omega) (by omega), zbs_bit]
  cases zmt G M c0 c1 p q <;> simp [hq]
theorem leav7 (hn : n ≤ 7) (hM : JM s n G M c0 c1) {p q : Nat} (hp : p < n) (hq : q < n) (hpq : p ≠ q) (w : Option Nat) (hw : ∀ r, w = some r → r < n ∧ r ≠ p) : f_X0_leaves (nI p) (nI q) (oI w) s = some (if zlo G M c1 p q w then 1 else 0, s) := by
  have hl := zbs_lt (zls G M c1 p q) n
  have h7 := pow_128 hn
  unfold f_X0_leaves f_X0_leaves_23 f_X0_leaves_28
  cases w with
  | none =>
    rw [show oI none = (-1 : Int32) from rfl, if_pos (by decide)]
    simp [zlo]
  | some r =>
    obtain ⟨h1, h2⟩ := hw r rfl
    rw [show oI (some r) = nI r from rfl, if_neg (nI_pos (by omega)), rd_62 s (7 * p + q) (by rw [pk_mul, nI_add, Nat.mul_comm]) (by omega), Option.bind_some, (hM p hp).2 q hq (Ne.symm hpq), ush_tb (by omega) (by omega), zbs_bit, zls_eq h2]
    show _ = some (if zlm G M c1 p q r then 1 else 0, s)
    cases zlm G M c1 p q r <;> simp [h1]
theorem oI_ne {w : Option Nat} {q n : Nat} (hn : n ≤ 7) (hq : q < n) (hw : ∀ r, w = some r → r < n) : (oI w = nI q) ↔ w = some q := by
  cases w with
  | none => exact ⟨fun z => absurd z.symm (ne_m1 (by omega)), fun z => by cases z⟩
  | some r =>
    have := hw r rfl
    refine ⟨fun z => ?_, fun z => by cases z; rfl⟩
    rw [(nI_eq (by omega) (by omega)).mp z]
theorem brk7 {v : Nat} (hd : zk_d v = 0) (hz : zk_n v = 7) (hn : n ≤ 7) (hM : JM s n G M c0 c1) {p q : Nat} (hp : p < n) (hq : q < n) (hpq : p ≠ q) {w : Nat → Option Nat} (hp1 : s.1 v p = oI (w p)) (hq1 : s.1 v q = oI (w q)) (hwp : ∀ r, w p = some r → r < n ∧ r ≠ p) (hwq : ∀ r, w q = some r → r < n ∧ r ≠ q) :
    f_X0_breakIt v (nI p) (nI q) s = some (if zbk G M c0 c1 w p q then 1 else 0, s) := by
  unfold f_X0_breakIt f_X0_breakIt_44 f_X0_breakIt_45
  have r1 : zr_i s v (nI p) = some (oI (w p)) := by rw [rd_i hd hz (by decide) rfl (by omega), hp1]
  have r2 : zr_i s v (nI q) = some (oI (w q)) := by rw [rd_i hd hz (by decide) rfl (by omega), hq1]
  rw [km7 hn hM hp hq, zbd_some, r1]
  unfold zbk
  by_cases h1 : zmt G M c0 c1 p q = true
  · rw [if_pos h1, if_neg (by decide), Option.bind_some]
    by_cases h2 : w p = some q
    · rw [if_pos ((oI_ne hn hq (fun r hr => (hwp r hr).1)).mpr h2)]
      simp [h2]
    · rw [if_neg (fun z => h2 ((oI_ne hn hq (fun r hr => (hwp r hr).1)).mp z)), Option.bind_some, leav7 hn hM hp hq hpq (w p) hwp, zbd_some]
      by_cases h3 : zlo G M c1 p q (w p) = true
      · rw [if_pos h3, if_neg (by decide), r2, Option.bind_some, leav7 hn hM hq hp (Ne.symm hpq) (w q) hwq, zbd_some]
        by_cases h4 : zlo G M c1 q p (w q) = true
        · simp [h1, h2, h3, h4]
        · simp [h4]
      · simp [h3]
  · simp [h1]
end BONDS7
