section PRIMS2
variable {b : Nat → Nat} {L N k m : Nat} {s t : zS}
/-- the kind of a fault at token k, where v is asked for -/
def fkd (b : Nat → Nat) (L k v : Nat) : Nat := if TK b L k = 25 then 1 else v
theorem refuse7 (h : CT s b L N k m) (v : Nat) : f_X3_refuse (nI v) s = some (0, zs_i (zs_i s 30 1 (nI (fkd b L k v))) 30 2 (nI (lxB b L k))) := by
  have hN := h.1.2.1
  have hL := h.1.1
  have hlt := TC_lt h.1 h.2.2.1
  have e25 : TC b L k = 1001 ↔ TK b L k = 25 := TC_eq h.1 h.2.2.1 (x := 25) (by decide) (by decide)
  have r41 : ∀ w : Int32, zr_i (zs_i s 30 1 w) 41 ((zs_i s 30 1 w).1 30 5) = some (nI (lxB b L k)) := fun w => by
    rw [zs_i_o _ _ _ _ _ (by decide), h.2.2.2.1, rd_41 _ k rfl (by have := h.2.2.1; omega), zs_i_n _ _ _ _ _ (by decide), (h.2.1 k h.2.2.1).2]
  unfold fkd
  rw [f_X3_refuse, tok7 h, Option.bind_some]
  by_cases e : TK b L k = 25
  · have e1 : TC b L k = 1001 := e25.mpr e
    rw [e1, if_neg (fun z => z rfl), f_X3_refuse_21, zb_eq, r41, Option.bind_some, zb_eq, if_pos e]; rfl
  · rw [if_pos (ne_of_nI (fun z => e (e25.mp z)) (by omega) (by omega)), f_X3_refuse_21, zb_eq, r41, Option.bind_some, zb_eq, if_neg e]
theorem fails8 (h : RT s b L N k m) (v : Nat) : f_X8_fails (nI v) s = some ((), zs_i (zs_i s 76 11 (nI (fkd b L k v))) 76 12 (nI (lxB b L k))) := by
  have hk : TK b L k < 42 := by
    rcases TK_ok h.1 h.2.2.1 with ⟨a1, -, -⟩ | ⟨-, a2, -⟩ <;> omega
  have e6 : ∀ w : Int32, (zs_i s 76 11 w).1 76 6 = nI (lxB b L k) := fun w => by rw [zs_i_o _ _ _ _ _ (by decide)]; exact h.2.2.2.1
  unfold fkd
  rw [f_X8_fails, if_pos h.2.2.2.2.2.2.2.1, h.2.2.2.2.2.1]
  by_cases e : TK b L k = 25
  · rw [e, if_neg (fun z => z rfl), f_X8_fails_23, zb_eq, e6, zb_eq, if_pos rfl]; rfl
  · rw [if_pos (ne_of_nI e (by omega) (by omega)), f_X8_fails_23, zb_eq, e6, zb_eq, if_neg e]
theorem dead_fails {v : Int32} (h : ¬ s.1 76 11 = 0) : f_X8_fails v s = some ((), s) := by rw [f_X8_fails, if_neg h]
theorem dead_is {v : Int32} (h : ¬ s.1 76 11 = 0) : f_X8_is v s = some (0, s) := by
  unfold f_X8_is f_X8_is_19 f_X8_is_20
  rw [if_pos h, if_pos (Or.inl rfl)]
theorem dead_eats {v : Int32} (h : ¬ s.1 76 11 = 0) : f_X8_eats v s = some (0, s) := by rw [f_X8_eats, dead_is h, zbd_some, if_neg (fun z => z rfl)]
theorem dead_codes {v : Int32} (h : ¬ s.1 76 11 = 0) : f_X8_codes v s = some ((), s) := by rw [f_X8_codes, if_neg h]
theorem is8 (h : RT s b L N k m) {x : Nat} (hx : x < 100) : f_X8_is (nI x) s = some (if TK b L k = x then 1 else 0, s) := by
  have hk : TK b L k < 42 := by
    rcases TK_ok h.1 h.2.2.1 with ⟨a1, -, -⟩ | ⟨-, a2, -⟩ <;> omega
  unfold f_X8_is f_X8_is_19 f_X8_is_20
  rw [if_neg (fun z => z h.2.2.2.2.2.2.2.1), h.2.2.2.2.2.1]
  by_cases e : TK b L k = x
  · rw [e, if_neg (fun z => z rfl), if_pos (Or.inr rfl), if_pos rfl]
  · rw [if_pos (ne_of_nI e (by omega) (by omega)), if_pos (Or.inl rfl), if_neg e]
theorem nextR (h : RT s b L N k m) (hk : k < N) : ∃ s', f_X8_next s = some ((), s') ∧ RT s' b L N (k + 1) m ∧ RX s s' := by
  obtain ⟨hTN, hT, h1, h6, h7, h9, h10, h11, h80, hm⟩ := h
  obtain ⟨n1, n2⟩ := lxN_b (b := b) (hTN.2.2.2 k hk)
  rw [if_pos hk] at h7
  obtain ⟨s', g1, g2, g3, g4, g5, g6⟩ := next8 hT h7 n2
  have eB : lxE (fun i => lxS (b i)) L (lxN b L (lxB b L k)) = lxB b L (k + 1) := by
    show _ = if lxB b L k < L then lxE (fun i => lxS (b i)) L (lxN b L (lxB b L k)) else L
    rw [if_pos (hTN.2.2.2 k hk)]
  rw [eB] at g3 g4 g5 g6
  refine ⟨s', g1, ⟨hTN, hT.x g2, by omega, g3, ?_, g5, g6, ?_, ?_, by omega⟩, g2⟩
  · rw [g4]
    by_cases e : k + 1 < N
    · rw [if_pos (hTN.2.2.2 _ e), if_pos e]
    · have : k + 1 = N := by omega
      rw [this, hTN.2.2.1, if_neg (Nat.lt_irrefl _), if_neg (Nat.lt_irrefl _)]
  · rw [g2.2 11 (by decide) (by decide) (by decide) (by decide)]; exact h11
  · rw [(g2.1 80 (by decide)).1]; exact h80
end PRIMS2
