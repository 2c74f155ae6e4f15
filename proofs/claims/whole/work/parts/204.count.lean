set_option maxRecDepth 20000 in
theorem tb_all : ∀ n, n < 8 → ∀ p, p < n → (2 ^ n - 1).testBit p = true ∧ (127 : Nat).testBit p = true := by decide +kernel
theorem zink_all {n : Nat} (hn : n ≤ 7) (G : Nat → Nat) : zink n G (2 ^ n - 1) = zink n G 127 := by
  unfold zink
  refine zfd_congr n 0 0 (fun j b _ hj => ?_)
  have h := tb_all n (by omega) j (by omega)
  rw [h.1, h.2]
theorem zodd_all {n : Nat} (hn : n ≤ 7) (D : Nat → Nat) : zodd n D (2 ^ n - 1) = zodd n D 127 := by
  unfold zodd
  refine zfd_congr n 0 0 (fun j b _ hj => ?_)
  have h := tb_all n (by omega) j (by omega)
  rw [h.1, h.2]
theorem pow_128 {n : Nat} (hn : n ≤ 7) : 2 ^ n ≤ 128 := Nat.pow_le_pow_right (n := 2) (by decide) hn
theorem op_count (a : Int32) {s : zS} {n u : Nat} {G M H D : Nat → Nat} {c0 c1 : List Nat} (hN : JNx s n G M H D c0 c1) (hU : JUx s n u) (hT : JT s) : ∃ (r : Int32) (s2 : zS), f_X7_count a s = some (r, s) ∧ f_X8_count a s = some (r, s2) ∧ zk_m [] s s2 := by
  have hn := hN.1.1
  have hp := pow_128 hn
  have hN2 : JNx (zs_i s 76 0 0) n G M H D c0 c1 := hN.keep (zk_k.rf.i (S := [76]) (by simp)) (by decide)
  have e77 : (zs_i s 76 0 0).1 77 = s.1 77 := zs_i_n _ _ _ _ _ (by decide)
  obtain ⟨g1, g2⟩ := eng7 hN
  have g3 := eng8 hN2
  rw [e77] at g3
  unfold f_X7_count f_X8_count
  rw [zb_eq]
  by_cases h0 : a = 0
  · rw [if_pos h0, if_pos h0, r77_1, Option.bind_some, e77, hN.1.2.1, hN.1.2.2.1]
    exact ⟨_, _, rfl, rfl, zk_m.th⟩
  rw [if_neg h0, if_neg h0]
  by_cases h1 : a = 1
  · rw [if_pos h1, if_pos h1, g1, g3]
    exact ⟨_, _, rfl, rfl, zk_m.th⟩
  rw [if_neg h1, if_neg h1]
  by_cases h2 : a = nI 2
  · rw [if_pos h2, if_pos h2, g1, g3, zbd_some, zbd_some, bc_ok _ (by omega), bits_512 (by omega)]
    exact ⟨_, _, rfl, rfl, zk_m.th⟩
  rw [if_neg h2, if_neg h2]
  by_cases h3 : a = nI 3
  · rw [if_pos h3, if_pos h3, f_X5_inkOfAll_3, all7 hN, zbd_some, ink7 hN (by omega), ink8 hN2 (by omega), zink_all hn]
    exact ⟨_, _, rfl, rfl, zk_m.th⟩
  rw [if_neg h3, if_neg h3]
  by_cases h4 : a = nI 4
  · rw [if_pos h4, if_pos h4, all7 hN, zbd_some, odd7 hN (by omega), odd8 hN2 (by omega), zodd_all hn]
    exact ⟨_, _, rfl, rfl, zk_m.th⟩
  rw [if_neg h4, if_neg h4]
  by_cases h5 : a = nI 5
  · rw [if_pos h5, if_pos h5, rd_77 _ 43 rfl (by decide), Option.bind_some, e77, hU.2.1, hU.2.2.1]
    exact ⟨_, _, rfl, rfl, zk_m.th⟩
  rw [if_neg h5, if_neg h5]
  by_cases h6 : a = nI 6
  · obtain ⟨t, -, t1, t2, -⟩ := hT
    rw [if_pos h6, if_pos h6, zs_i_o _ _ _ _ _ (by decide), t1, t2]
    exact ⟨_, _, rfl, rfl, zk_m.th⟩
  rw [if_neg h6, if_neg h6]
  by_cases h7 : a = nI 7
  · rw [if_pos h7, if_pos h7, r77_0, Option.bind_some, e77, hN.1.2.2.2]
    exact ⟨_, _, rfl, rfl, zk_m.th⟩
  rw [if_neg h7, if_neg h7]
  exact ⟨_, _, rfl, rfl, zk_m.th⟩
