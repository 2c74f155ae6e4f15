section PRIMS
variable {b : Nat → Nat} {L N k m : Nat} {s t : zS}
def lxOk (x : Nat) : Bool := decide (x < 17 ∨ x = 22 ∨ x = 24 ∨ x = 25 ∨ (30 ≤ x ∧ x < 42))
theorem lxK_inj : ∀ x, x < 42 → lxOk x = true → 1000 ≤ lxK x 0 ∧ lxK x 0 < 1300 ∧ ∀ y, y < 42 → lxOk y = true → lxK x 0 = lxK y 0 → x = y := by decide +kernel
theorem TK_ok (h : TN b L N) (hk : k ≤ N) : (TK b L k = 23 ∧ TV b L k < 1000 ∧ TC b L k = TV b L k) ∨ (lxOk (TK b L k) = true ∧ TK b L k < 42 ∧ TC b L k = lxK (TK b L k) 0) := by
  by_cases e : k = N
  · subst e
    rw [show TC b L k = lxK (TK b L k) (TV b L k) from rfl, TK_end h]
    exact Or.inr ⟨by decide, by decide, lxK_v (by decide) _⟩
  · obtain ⟨r1, r2⟩ := TK_r h (show k < N by omega)
    by_cases h23 : TK b L k = 23
    · refine Or.inl ⟨h23, r2 h23, ?_⟩
      show lxK (TK b L k) (TV b L k) = _
      rw [h23]
      rfl
    · exact Or.inr ⟨decide_eq_true (by omega), by omega, lxK_v h23 _⟩
theorem TC_eq (h : TN b L N) (hk : k ≤ N) {x : Nat} (hx : x < 42) (hv : lxOk x = true) : TC b L k = lxK x 0 ↔ TK b L k = x := by
  obtain ⟨x1, x2, x3⟩ := lxK_inj x hx hv
  rcases TK_ok h hk with ⟨a1, a2, a3⟩ | ⟨a1, a2, a3⟩
  · rw [a1, a3]
    refine ⟨fun z => by omega, fun z => ?_⟩
    subst z
    exact absurd hv (by decide)
  · rw [a3]
    exact ⟨fun z => (x3 _ a2 a1 z.symm).symm, fun z => by rw [z]⟩
theorem TC_lt (h : TN b L N) (hk : k ≤ N) : TC b L k < 1300 := by
  rcases TK_ok h hk with ⟨a1, a2, a3⟩ | ⟨a1, a2, a3⟩
  · omega
  · have := (lxK_inj _ a2 a1).2.1; omega
theorem TC_1000 (h : TN b L N) (hk : k ≤ N) : TC b L k < 1000 ↔ TK b L k = 23 := by
  rcases TK_ok h hk with ⟨a1, a2, a3⟩ | ⟨a1, a2, a3⟩
  · exact ⟨fun _ => a1, fun _ => by omega⟩
  · have := (lxK_inj _ a2 a1).1
    refine ⟨fun z => by omega, fun z => ?_⟩
    rw [z] at a1
    exact absurd a1 (by decide)
theorem step7 (h : CT s b L N k m) (hk : k < N) : f_X3_step s = some ((), zs_i s 30 5 (nI (k + 1))) ∧ CT (zs_i s 30 5 (nI (k + 1))) b L N (k + 1) m := by
  have hN := h.1.2.1
  have hL := h.1.1
  have h24 : ¬ TC b L k = 1000 := fun z => by
    have e := (TC_eq h.1 h.2.2.1 (x := 24) (by decide) (by decide)).mp z
    obtain ⟨r1, -⟩ := TK_r h.1 hk
    omega
  have hlt := TC_lt h.1 h.2.2.1
  refine ⟨?_, h.1, fun i hi => h.2.1 i hi, by omega, zs_i_v _ _ _ _, ⟨by rw [zs_i_o _ _ _ _ _ (by decide)]; exact h.2.2.2.2.1.1, by rw [zs_i_o _ _ _ _ _ (by decide)]; exact h.2.2.2.2.1.2⟩, h.2.2.2.2.2.1, by have := h.2.2.2.2.2.2; omega⟩
  rw [f_X3_step, tok7 h, Option.bind_some, if_neg (ne_of_nI h24 (by omega) (by omega)), h.2.2.2.1, if_neg (nI_ge (by omega) (by omega)), zb_eq, nI_1]; rfl
end PRIMS
