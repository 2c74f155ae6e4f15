section PRIMS3
variable {b : Nat → Nat} {L N k m : Nat} {s t : zS}
theorem take7 (h : CT s b L N k m) {x : Nat} (hx : x < 42) (hv : lxOk x = true) (h24 : x ≠ 24) : (TK b L k = x → k < N ∧ f_X3_take (nI (lxK x 0)) s = some (1, zs_i s 30 5 (nI (k + 1))) ∧ CT (zs_i s 30 5 (nI (k + 1))) b L N (k + 1) m) ∧ (¬ TK b L k = x → f_X3_take (nI (lxK x 0)) s = some (0, zs_i (zs_i s 30 1 (nI (fkd b L k 2))) 30 2 (nI (lxB b L k)))) := by
  have hlt := TC_lt h.1 h.2.2.1
  obtain ⟨x1, x2, -⟩ := lxK_inj x hx hv
  have he := TC_eq h.1 h.2.2.1 hx hv
  constructor
  · intro e
    have hk : k < N := by
      have := h.2.2.1
      rcases Nat.lt_or_eq_of_le this with q | q
      · exact q
      · exact absurd (by rw [← e, q]; exact TK_end h.1) h24
    obtain ⟨g1, g2⟩ := step7 h hk
    refine ⟨hk, ?_, g2⟩
    rw [f_X3_take, tok7 h, Option.bind_some, he.mpr e, if_pos rfl, g1, zbd_some]
  · intro e
    rw [f_X3_take, tok7 h, Option.bind_some, if_neg (ne_of_nI (fun z => e (he.mp z)) (by omega) (by omega)), refuse7 h 2, zbd_some, if_pos (Or.inl rfl)]
theorem eats8 (h : RT s b L N k m) {x : Nat} (hx : x < 100) (h24 : x ≠ 24) : (TK b L k = x → ∃ s', f_X8_eats (nI x) s = some (1, s') ∧ RT s' b L N (k + 1) m ∧ RX s s') ∧ (¬ TK b L k = x → f_X8_eats (nI x) s = some (0, s)) := by
  constructor
  · intro e
    have hk : k < N := by
      have := h.2.2.1
      rcases Nat.lt_or_eq_of_le this with q | q
      · exact q
      · exact absurd (by rw [← e, q]; exact TK_end h.1) h24
    obtain ⟨s', g1, g2, g3⟩ := nextR h hk
    refine ⟨s', ?_, g2, g3⟩
    rw [f_X8_eats, is8 h hx, if_pos e, zbd_some, if_pos (by decide), g1, zbd_some]
  · intro e
    rw [f_X8_eats, is8 h hx, if_neg e, zbd_some, if_neg (fun z => z rfl)]
theorem emit7 {c : Int32} (h8 : s.1 31 8 = nI m) (hm : m < 900) : f_X3_emit c s = some ((), zs_i (zs_i s 37 m c) 31 8 (nI (m + 1))) := by
  have e : (zs_i s 37 m c).1 31 8 = nI m := by rw [zs_i_n _ _ _ _ _ (by decide)]; exact h8
  rw [f_X3_emit, h8, if_neg (nI_ge hm (by omega)), wr_37 s m rfl hm, Option.bind_some, e, nI_1, zb_eq]; rfl
theorem codes8 {c : Int32} (h11 : s.1 76 11 = 0) (h8 : s.1 80 254 = nI m) (hm : m < 900) : f_X8_codes c s = some ((), zs_i (zs_i s 80 (255 + m) c) 80 254 (nI (m + 1))) := by
  have e : (zs_i s 80 (255 + m) c).1 80 254 = nI m := by rw [zs_i_o _ _ _ _ _ (by omega)]; exact h8
  rw [f_X8_codes, if_pos h11, rd_80 s 254 rfl (by decide), Option.bind_some, h8, wr_80 s (255 + m) (nI_add _ _) (by omega), Option.bind_some, rd_80 _ 254 rfl (by decide), Option.bind_some, e, nI_1, wr_80 _ 254 rfl (by decide), Option.bind_some]
end PRIMS3
