/-- loops: a step each, till N -/
theorem zlp {σ R : Type} (O : Nat → Nat → σ → R) (N : Nat) (Inv : Nat → σ → Prop) (hs : ∀ q i a, i < N → Inv i a → ∃ a', O (q + 1) i a = O q (i + 1) a' ∧ Inv (i + 1) a') : ∀ (k i q : Nat) (a : σ), i + k = N → k < q → Inv i a → ∃ q' a', O q i a = O (q' + 1) N a' ∧ Inv N a' := by
  intro k
  induction k with
  | zero =>
    intro i q a hi hq h
    obtain ⟨q, rfl⟩ : ∃ r, q = r + 1 := ⟨q - 1, by omega⟩
    have e : i = N := by omega
    subst e
    exact ⟨q, a, rfl, h⟩
  | succ k ih =>
    intro i q a hi hq h
    obtain ⟨q, rfl⟩ : ∃ r, q = r + 1 := ⟨q - 1, by omega⟩
    obtain ⟨a', g1, g2⟩ := hs q i a (by omega) h
    obtain ⟨q', a2, g3, g4⟩ := ih (i + 1) q a' (by omega) (by omega) g2
    exact ⟨q', a2, g1.trans g3, g4⟩
/-- a loop that may end before -/
theorem zlpe {σ R : Type} (O : Nat → Nat → σ → R) (N : Nat) (Inv : Nat → σ → Prop) (Res : R → Prop) (hs : ∀ q i a, i < N → Inv i a → (∃ a', O (q + 1) i a = O q (i + 1) a' ∧ Inv (i + 1) a') ∨ Res (O (q + 1) i a)) : ∀ (k i q : Nat) (a : σ), i + k = N → k < q → Inv i a → (∃ q' a', O q i a = O (q' + 1) N a' ∧ Inv N a') ∨ Res (O q i a) := by
  intro k
  induction k with
  | zero =>
    intro i q a hi hq h
    obtain ⟨q, rfl⟩ : ∃ r, q = r + 1 := ⟨q - 1, by omega⟩
    have e : i = N := by omega
    subst e
    exact Or.inl ⟨q, a, rfl, h⟩
  | succ k ih =>
    intro i q a hi hq h
    obtain ⟨q, rfl⟩ : ∃ r, q = r + 1 := ⟨q - 1, by omega⟩
    rcases hs q i a (by omega) h with ⟨a', g1, g2⟩ | g
    · rcases ih (i + 1) q a' (by omega) (by omega) g2 with ⟨q', a2, g3, g4⟩ | g3
      · exact Or.inl ⟨q', a2, g1.trans g3, g4⟩
      · rw [g1]; exact Or.inr g3
    · exact Or.inr g
/-- a loop in a loop, over two indices below N -/
theorem zlp2 {R : Type} (O : Nat → Int32 → zS → R) (I : (Int32 → zS → R) → Nat → Int32 → Int32 → zS → R) (N : Nat) (hN : N ≤ 128) (Inv : Nat → Nat → zS → Prop)
    (hO : ∀ q p s, p < N → Inv p 0 s → O (q + 1) (nI p) s = I (O q) zFU (nI p) 0 s)
    (hI : ∀ kb q p j s, p < N → j < N → Inv p j s → ∃ s', I kb (q + 1) (nI p) (nI j) s = I kb q (nI p) (nI (j + 1)) s' ∧ Inv p (j + 1) s')
    (hE : ∀ kb q p s, p < N → Inv p N s → ∃ s', I kb (q + 1) (nI p) (nI N) s = kb (nI (p + 1)) s' ∧ Inv (p + 1) 0 s') (s : zS) (h0 : Inv 0 0 s) :
    ∃ q' s', O zFU 0 s = O (q' + 1) (nI N) s' ∧ Inv N 0 s' := by
  have K := zlp (fun q i s => O q (nI i) s) N (fun i s => Inv i 0 s) (fun q i s hi h => by
    show ∃ a', O (q + 1) (nI i) s = O q (nI (i + 1)) a' ∧ Inv (i + 1) 0 a'
    rw [hO q i s hi h]
    obtain ⟨q', s', g1, g2⟩ := zlp (fun r j s => I (O q) r (nI i) (nI j) s) N (fun j s => Inv i j s) (fun r j s hj h => hI (O q) r i j s hi hj h) N 0 zFU s (by omega) (by show N < 5000; omega) h
    obtain ⟨s2, g3, g4⟩ := hE (O q) q' i s' hi g2
    exact ⟨s2, (show I (O q) zFU (nI i) 0 s = _ from g1).trans g3, g4⟩) N 0 zFU s (by omega) (by show N < 5000; omega) h0
  exact K
