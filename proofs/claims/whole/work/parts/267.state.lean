section STATE
variable {b : Nat → Nat} {L N k m : Nat} {s t : zS}
theorem lxY_r {q : Nat} (h : q < L) : (lxY b L q < 17 ∨ lxY b L q = 22 ∨ lxY b L q = 23 ∨ lxY b L q = 25 ∨ (30 ≤ lxY b L q ∧ lxY b L q < 42)) ∧ (lxY b L q = 23 → lxQ b L q < 1000) := by
  obtain ⟨n1, n2⟩ := lxN_b (b := b) h
  have hy : lxY b L q = if lxL (b q) then lxI (lxT b q (lxN b L q)) lxW 0 22 else if lxD (b q) then (if lxN b L q - q ≤ 3 then 23 else 25) else lxZ (b q) 12 := by
    unfold lxY
    rw [if_neg (show ¬ L ≤ q by omega)]
  rw [hy]
  by_cases hl : lxL (b q) = true
  · rw [if_pos hl]
    have := lxI_22 (lxT b q (lxN b L q))
    exact ⟨by omega, fun z => by omega⟩
  · rw [if_neg hl]
    by_cases hd : lxD (b q) = true
    · rw [if_pos hd]
      by_cases h3 : lxN b L q - q ≤ 3
      · rw [if_pos h3]
        refine ⟨by omega, fun _ => ?_⟩
        have hn : lxN b L q = lxE (fun i => lxD (b i)) L (q + 1) := by
          unfold lxN
          rw [if_neg hl, if_pos hd]
        have hlt := lxU_lt (b := b) (p := q) (lxN b L q - q) (fun i hi => by
          by_cases e : i = 0
          · rw [e]; exact hd
          · exact lxE_q (P := fun i => lxD (b i)) (L := L) L (q + 1) (by omega) (q + i) (by omega) (by rw [← hn]; omega))
        have hpow : 10 ^ (lxN b L q - q) ≤ 10 ^ 3 := Nat.pow_le_pow_right (by decide) h3
        unfold lxQ
        omega
      · rw [if_neg h3]
        exact ⟨by omega, fun z => (by cases z)⟩
    · rw [if_neg hd]
      have := lxZ_r (b q) 12
      exact ⟨by omega, fun z => by omega⟩
/-- token k: the reference's kind, its value, the class's code -/
def TK (b : Nat → Nat) (L k : Nat) : Nat := lxY b L (lxB b L k)
def TV (b : Nat → Nat) (L k : Nat) : Nat := lxQ b L (lxB b L k)
def TC (b : Nat → Nat) (L k : Nat) : Nat := lxK (TK b L k) (TV b L k)
/-- N tokens, and the end -/
def TN (b : Nat → Nat) (L N : Nat) : Prop := L ≤ 900 ∧ N ≤ L ∧ lxB b L N = L ∧ ∀ i, i < N → lxB b L i < L
theorem TK_end (h : TN b L N) : TK b L N = 24 := by
  unfold TK lxY
  rw [h.2.2.1, if_pos (Nat.le_refl _)]
theorem TK_r (h : TN b L N) (hk : k < N) : (TK b L k < 17 ∨ TK b L k = 22 ∨ TK b L k = 23 ∨ TK b L k = 25 ∨ (30 ≤ TK b L k ∧ TK b L k < 42)) ∧ (TK b L k = 23 → TV b L k < 1000) := lxY_r (h.2.2.2 k hk)
/-- the class at token k, with m codes -/
def CT (s : zS) (b : Nat → Nat) (L N k m : Nat) : Prop := TN b L N ∧ (∀ i, i ≤ N → s.1 40 i = nI (TC b L i) ∧ s.1 41 i = nI (lxB b L i)) ∧ k ≤ N ∧ s.1 30 5 = nI k ∧ (s.1 30 1 = 0 ∧ s.1 30 2 = -1) ∧ s.1 31 8 = nI m ∧ m ≤ k
/-- the reference at token k, with m codes -/
def RT (s : zS) (b : Nat → Nat) (L N k m : Nat) : Prop := TN b L N ∧ T8 s b L ∧ k ≤ N ∧ s.1 76 6 = nI (lxB b L k) ∧ s.1 76 7 = nI (if k < N then lxN b L (lxB b L k) else L) ∧ s.1 76 9 = nI (TK b L k) ∧ (TK b L k = 23 → s.1 76 10 = nI (TV b L k)) ∧ s.1 76 11 = 0 ∧ s.1 80 254 = nI m ∧ m ≤ k
theorem lxK_lt {x v : Nat} (h : x = 23 → v < 1000) : lxK x v < 3000 ∨ 42 ≤ x := by
  by_cases hx : x < 42
  · left
    by_cases h23 : x = 23
    · unfold lxK; rw [if_pos h23]; have := h h23; omega
    · rw [lxK_v h23]
      exact (by decide : ∀ x, x < 42 → x ≠ 23 → lxK x 0 < 3000) x hx h23
  · right; omega
theorem tok7 (h : CT s b L N k m) : zr_i s 40 (s.1 30 5) = some (nI (TC b L k)) := by
  have hN := h.1.2.1
  have hL := h.1.1
  rw [h.2.2.2.1, rd_40 s k rfl (by have := h.2.2.1; omega), (h.2.1 k h.2.2.1).1]
end STATE
