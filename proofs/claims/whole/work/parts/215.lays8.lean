def zc2 (G : Nat → Nat) (p q : Nat) : Nat := if p = q then 0 else zfew (G p) (G q)
theorem zc2_sym (G : Nat → Nat) (p q : Nat) : zc2 G p q = zc2 G q p := by
  unfold zc2
  by_cases h : p = q
  · rw [if_pos h, if_pos h.symm]
  · rw [if_neg h, if_neg (fun z => h z.symm), zfew_sym]
theorem zc2_le (G : Nat → Nat) (p q : Nat) : zc2 G p q ≤ 9 := by
  unfold zc2
  split
  · omega
  · exact zfew_le _ _
theorem zmem_two : ∀ n, n < 8 → ∀ q, q < n → ∀ p, p < q → zmem (2 ^ p ||| 2 ^ q) n = [p, q] ∧ (2 ^ p ||| 2 ^ q) < 2 ^ n ∧ (2 ^ q ||| 2 ^ p) = (2 ^ p ||| 2 ^ q) := by decide +kernel
def zlk (G M : Nat → Nat) (c1 : List Nat) (p q : Nat) : Int32 := zlik c1 (zc2 G p q) (zpc 9 (G q)) p (M p) q (M q)
def zmt (G M : Nat → Nat) (c0 c1 : List Nat) (p q : Nat) : Bool := decide (p ≠ q) && (decide (0 < zlk G M c1 p q) && (decide (0 < zlk G M c1 q p) && zfit c0 (zc2 G p q) (zpc 9 (G p) + zpc 9 (G q)) 2))
section LAYS8
variable {n : Nat} {G M : Nat → Nat} {c0 c1 : List Nat}
theorem cross8 {s : zS} (hZ : ZM s n G M c0 c1) {p q : Nat} (hp : p < n) (hq : q < n) (hpq : p ≠ q) : ∃ s', f_X8_crossOf (nI p) (nI q) s = some (nI (zc2 G p q), s') ∧ zk_m [81, 82, 83, 84] s s' := by
  have hn := hZ.1
  have main : ∀ a b, a < b → b < n → ∃ s', f_X8_laysSet (nI (2 ^ a ||| 2 ^ b)) s = some (nI (zc2 G a b), s') ∧ zk_m [81, 82, 83, 84] s s' := by
    intro a b hab hb
    obtain ⟨e1, e2, e3⟩ := zmem_two n (by omega) b hb a hab
    have h128 := pow_128 hn
    obtain ⟨s', g1, g2, g3⟩ := set8 hZ (m := 2 ^ a ||| 2 ^ b) (by omega) (by rw [e1]; simp)
    refine ⟨s', ?_, g3⟩
    rw [g1, e1]
    show some (nI (zmono [G a, G b]).1, s') = _
    rw [zmono2, zc2, if_neg (by omega)]
  unfold f_X8_crossOf
  rw [one_shl p (by omega), one_shl q (by omega), nI_or]
  by_cases h : p < q
  · obtain ⟨s', g1, g2⟩ := main p q h hq
    rw [g1, zbd_some]
    exact ⟨s', rfl, g2⟩
  · obtain ⟨s', g1, g2⟩ := main q p (by omega) hp
    rw [(zmem_two n (by omega) p hp q (by omega)).2.2, g1, zbd_some, zc2_sym]
    exact ⟨s', rfl, g2⟩
def ZC8 (s : zS) (n : Nat) (G : Nat → Nat) : Prop := ∀ a b, a < n → b < n → s.1 87 (7 * a + b) = nI (zc2 G a b)
theorem laysC8 {s : zS} (hZ : ZM s n G M c0 c1) : ∃ s', f_X8_laysCrossed s = some ((), s') ∧ ZC8 s' n G ∧ zk_m [81, 82, 83, 84, 87] s s' := by
  have hn := hZ.1
  obtain ⟨q', s', g1, g2, g3⟩ := zlp2 f_X8_laysCrossed_2 f_X8_laysCrossed_14 n (by omega) (fun p j t => zk_m [81, 82, 83, 84, 87] s t ∧ ∀ a b, a < n → b < n → (a < p ∨ (a = p ∧ b < j)) → t.1 87 (7 * a + b) = nI (zc2 G a b))
    (fun q p t hp h => by
      have hZ1 := hZ.keep h.1.1 (by decide)
      rw [f_X8_laysCrossed_2, r77_1, Option.bind_some, hZ1.2.1, if_neg (nI_ge hp (by omega))])
    (fun kb q p j t hp hj h => by
      have hZ1 := hZ.keep h.1.1 (by decide)
      rw [f_X8_laysCrossed_14, r77_1, Option.bind_some, hZ1.2.1, if_neg (nI_ge hj (by omega))]
      simp only [pk_mul, nI_add]
      have fin : ∀ t2, zk_m [81, 82, 83, 84] t t2 → ∃ s', f_X8_laysCrossed_68 kb (f_X8_laysCrossed_14 kb q) (nI p) (nI j) (nI (zc2 G p j)) (nI (7 * p + j)) t2 = f_X8_laysCrossed_14 kb q (nI p) (nI (j + 1)) s' ∧ zk_m [81, 82, 83, 84, 87] s s' ∧ ∀ a b, a < n → b < n → (a < p ∨ (a = p ∧ b < j + 1)) → s'.1 87 (7 * a + b) = nI (zc2 G a b) := by
        intro t2 k2
        rw [f_X8_laysCrossed_68, wr_87 t2 (7 * p + j) rfl (by omega), Option.bind_some, zb_eq, nI_1]
        refine ⟨_, rfl, (h.1.tr (k2.mono (by simp))).i (by simp) (by decide), fun a b ha hb hab => ?_⟩
        by_cases e : a = p ∧ b = j
        · obtain ⟨rfl, rfl⟩ := e
          rw [zs_i_v]
        · rw [zs_i_o _ _ _ _ _ (by omega), (k2.1 87 (by decide)).1]
          exact h.2 a b ha hb (by omega)
      by_cases h1 : p < j
      · rw [if_neg (nI_ge h1 (by omega))]
        obtain ⟨t2, k1, k2⟩ := cross8 hZ1 hp hj (by omega)
        rw [k1, zbd_some]
        exact fin t2 k2
      · rw [if_pos (nI_le (by omega) (by omega))]
        by_cases h2 : p = j
        · have e0 : zc2 G p j = 0 := by unfold zc2; rw [if_pos h2]
          have := fin t zk_m.rf
          rw [e0] at this
          rw [if_pos (nI_le (by omega) (by omega))]
          exact this
        · rw [if_neg (nI_ge (by omega) (by omega)), rd_87 t (7 * j + p) rfl (by omega), Option.bind_some, h.2 j p hj hp (by omega), zc2_sym]
          exact fin t zk_m.rf)
    (fun kb q p t hp h => by
      have hZ1 := hZ.keep h.1.1 (by decide)
      rw [f_X8_laysCrossed_14, r77_1, Option.bind_some, hZ1.2.1, if_pos (nI_le (Nat.le_refl _) (by omega)), zb_eq, nI_1]
      exact ⟨t, rfl, h.1, fun a b ha hb hab => h.2 a b ha hb (by omega)⟩) s ⟨zk_m.rf, fun a b _ _ h => by omega⟩
  have hZ1 := hZ.keep g2.1 (by decide)
  rw [f_X8_laysCrossed, g1, f_X8_laysCrossed_2, r77_1, Option.bind_some, hZ1.2.1, if_pos (nI_le (Nat.le_refl _) (by omega))]
  exact ⟨s', rfl, fun a b ha hb => g3 a b ha hb (by omega), g2⟩
def ZL8 (s : zS) (n : Nat) (G M : Nat → Nat) (c1 : List Nat) : Prop := ∀ a b, a < n → b < n → a ≠ b → s.1 88 (7 * a + b) = zlk G M c1 a b
def ZT8 (s : zS) (n : Nat) (G M : Nat → Nat) (c0 c1 : List Nat) : Prop := ∀ a b, a < n → b < n → s.1 89 (7 * a + b) = if zmt G M c0 c1 a b then 1 else 0
theorem laysL8 {s : zS} (hZ : ZM s n G M c0 c1) (hC : ZC8 s n G) : ∃ s', f_X8_laysLiked s = some ((), s') ∧ ZL8 s' n G M c1 ∧ ZT8 s' n G M c0 c1 ∧ zk_m [85, 86, 88, 89] s s' := by
  have hn := hZ.1
  obtain ⟨q', s1, g1, g2, g3⟩ := zlp2 f_X8_laysLiked_2 f_X8_laysLiked_14 n (by omega) (fun p j t => zk_m [85, 86, 88, 89] s t ∧ ∀ a b, a < n → b < n → (a < p ∨ (a = p ∧ b < j)) → a ≠ b → t.1 88 (7 * a + b) = zlk G M c1 a b)
    (fun q p t hp h => by
      have hZ1 := hZ.keep h.1.1 (by decide)
      rw [f_X8_laysLiked_2, r77_1, Option.bind_some, hZ1.2.1, if_neg (nI_ge hp (by omega))])
    (fun kb q p j t hp hj h => by
      have hZ1 := hZ.keep h.1.1 (by decide)
      rw [f_X8_laysLiked_14, r77_1, Option.bind_some, hZ1.2.1, if_neg (nI_ge hj (by omega))]
      by_cases e : p = j
      · subst e
        rw [if_pos rfl, f_X8_laysLiked_46, zb_eq, nI_1]
        exact ⟨t, rfl, h.1, fun a b ha hb hab hne => h.2 a b ha hb (by omega) hne⟩
      · obtain ⟨t2, k1, k2⟩ := lik8 hZ1 hp hj (x := zc2 G p j) (by rw [(h.1.1 87 (by decide)).1]; exact hC p j hp hj)
        rw [if_neg (ne_of_nI e (by omega) (by omega)), k1, zbd_some, pk_mul, nI_add, wr_88 t2 (7 * p + j) rfl (by omega), Option.bind_some, f_X8_laysLiked_46, zb_eq, nI_1]
        have k3 : zk_m [85, 86, 88, 89] t t2 := ⟨k2.mono (by simp), by rw [(k2 76 (by decide)).1], by rw [(k2 76 (by decide)).1], by rw [(k2 76 (by decide)).1], by rw [(k2 76 (by decide)).1]⟩
        refine ⟨_, rfl, (h.1.tr k3).i (by simp) (by decide), fun a b ha hb hab hne => ?_⟩
        by_cases e2 : a = p ∧ b = j
        · obtain ⟨rfl, rfl⟩ := e2
          rw [zs_i_v]; rfl
        · rw [zs_i_o _ _ _ _ _ (by omega), (k2 88 (by decide)).1]
          exact h.2 a b ha hb (by omega) hne)
    (fun kb q p t hp h => by
      have hZ1 := hZ.keep h.1.1 (by decide)
      rw [f_X8_laysLiked_14, r77_1, Option.bind_some, hZ1.2.1, if_pos (nI_le (Nat.le_refl _) (by omega)), zb_eq, nI_1]
      exact ⟨t, rfl, h.1, fun a b ha hb hab hne => h.2 a b ha hb (by omega) hne⟩) s ⟨zk_m.rf, fun a b _ _ h => by omega⟩
  have hZ1 := hZ.keep g2.1 (by decide)
  have hL1 : ∀ a b, a < n → b < n → a ≠ b → s1.1 88 (7 * a + b) = zlk G M c1 a b := fun a b ha hb hne => g3 a b ha hb (by omega) hne
  have hC1 : ZC8 s1 n G := fun a b ha hb => by rw [(g2.1 87 (by decide)).1]; exact hC a b ha hb
  rw [f_X8_laysLiked, g1, f_X8_laysLiked_2, r77_1, Option.bind_some, hZ1.2.1, if_pos (nI_le (Nat.le_refl _) (by omega))]
  obtain ⟨q2, s2, e1, e2, e3⟩ := zlp2 f_X8_laysLiked_60 f_X8_laysLiked_72 n (by omega) (fun p j t => zk_m [85, 86, 89] s1 t ∧ ∀ a b, a < n → b < n → (a < p ∨ (a = p ∧ b < j)) → t.1 89 (7 * a + b) = if zmt G M c0 c1 a b then 1 else 0)
    (fun q p t hp h => by
      have hZ2 := hZ1.keep h.1.1 (by decide)
      rw [f_X8_laysLiked_60, r77_1, Option.bind_some, hZ2.2.1, if_neg (nI_ge hp (by omega))])
    (fun kb q p j t hp hj h => by
      have hZ2 := hZ1.keep h.1.1 (by decide)
      have l1 : ∀ a b, a < n → b < n → a ≠ b → t.1 88 (7 * a + b) = zlk G M c1 a b := fun a b ha hb hne => by rw [(h.1.1 88 (by decide)).1]; exact hL1 a b ha hb hne
      have fin : ∀ t2, zk_m [85, 86] t t2 → ∃ s', f_X8_laysLiked_174 kb (f_X8_laysLiked_72 kb q) (nI p) (nI j) (if zmt G M c0 c1 p j then 1 else 0) (nI (7 * p + j)) t2 = f_X8_laysLiked_72 kb q (nI p) (nI (j + 1)) s' ∧ zk_m [85, 86, 89] s1 s' ∧ ∀ a b, a < n → b < n → (a < p ∨ (a = p ∧ b < j + 1)) → s'.1 89 (7 * a + b) = if zmt G M c0 c1 a b then 1 else 0 := by
        intro t2 k2
        rw [f_X8_laysLiked_174, wr_89 t2 (7 * p + j) rfl (by omega), Option.bind_some, zb_eq, nI_1]
        refine ⟨_, rfl, (h.1.tr (k2.mono (by simp))).i (by simp) (by decide), fun a b ha hb hab => ?_⟩
        by_cases e : a = p ∧ b = j
        · obtain ⟨rfl, rfl⟩ := e
          rw [zs_i_v]
          split
          · exact nar_z1
          · exact nar_z0
        · rw [zs_i_o _ _ _ _ _ (by omega), (k2.1 89 (by decide)).1]
          exact h.2 a b ha hb (by omega)
      have no : zmt G M c0 c1 p j = false → ∀ t2, zk_m [85, 86] t t2 → ∃ s', f_X8_laysLiked_173 kb (f_X8_laysLiked_72 kb q) (nI p) (nI j) (nI (7 * p + j)) t2 = f_X8_laysLiked_72 kb q (nI p) (nI (j + 1)) s' ∧ zk_m [85, 86, 89] s1 s' ∧ ∀ a b, a < n → b < n → (a < p ∨ (a = p ∧ b < j + 1)) → s'.1 89 (7 * a + b) = if zmt G M c0 c1 a b then 1 else 0 := by
        intro hf t2 k2
        have := fin t2 k2
        rw [hf] at this
        exact this
      rw [f_X8_laysLiked_72, r77_1, Option.bind_some, hZ2.2.1, if_neg (nI_ge hj (by omega))]
      simp only [pk_mul, nI_add]
      by_cases e : p = j
      · rw [if_pos (by rw [e])]
        exact no (by unfold zmt; simp [e]) t zk_m.rf
      rw [if_neg (ne_of_nI e (by omega) (by omega)), rd_88 t (7 * p + j) rfl (by omega), Option.bind_some, l1 p j hp hj e]
      by_cases e2 : zlk G M c1 p j ≤ 0
      · rw [if_pos e2]
        exact no (by unfold zmt; simp [Int32.not_lt.mpr e2]) t zk_m.rf
      rw [if_neg e2, rd_88 t (7 * j + p) rfl (by omega), Option.bind_some, l1 j p hj hp (fun z => e z.symm)]
      by_cases e3 : zlk G M c1 j p ≤ 0
      · rw [if_pos e3]
        exact no (by unfold zmt; simp [Int32.not_lt.mpr e3]) t zk_m.rf
      rw [if_neg e3, rd_87 t (7 * p + j) rfl (by omega), Option.bind_some, (h.1.1 87 (by decide)).1, hC1 p j hp hj, rd_77 t (29 + p) rfl (by omega), Option.bind_some, (hZ2.2.2.1 p hp).1.1, bits_512 (hZ2.2.2.1 p hp).1.2, zbd_some, rd_77 t (29 + j) rfl (by omega), Option.bind_some, (hZ2.2.2.1 j hj).1.1, bits_512 (hZ2.2.2.1 j hj).1.2, zbd_some, nI_add]
      have hx := zc2_le G p j
      obtain ⟨t2, k1, k2⟩ := fit8 hZ2 (zc2 G p j) (zpc 9 (G p) + zpc 9 (G j)) 2 (by omega)
      have k3 : zk_m [85, 86] t t2 := ⟨k2.mono (by simp), by rw [(k2 76 (by decide)).1], by rw [(k2 76 (by decide)).1], by rw [(k2 76 (by decide)).1], by rw [(k2 76 (by decide)).1]⟩
      rw [k1, zbd_some]
      have em : zmt G M c0 c1 p j = zfit c0 (zc2 G p j) (zpc 9 (G p) + zpc 9 (G j)) 2 := by
        unfold zmt
        simp [e, Int32.not_le.mp e2, Int32.not_le.mp e3]
      by_cases e4 : zfit c0 (zc2 G p j) (zpc 9 (G p) + zpc 9 (G j)) 2 = true
      · have := fin t2 k3
        rw [em, if_pos e4] at this
        rw [if_pos e4, if_neg (by decide)]
        exact this
      · rw [if_neg e4, if_pos rfl]
        exact no (by rw [em]; simpa using e4) t2 k3)
    (fun kb q p t hp h => by
      have hZ2 := hZ1.keep h.1.1 (by decide)
      rw [f_X8_laysLiked_72, r77_1, Option.bind_some, hZ2.2.1, if_pos (nI_le (Nat.le_refl _) (by omega)), zb_eq, nI_1]
      exact ⟨t, rfl, h.1, fun a b ha hb hab => h.2 a b ha hb (by omega)⟩) s1 ⟨zk_m.rf, fun a b _ _ h => by omega⟩
  have hZ3 := hZ1.keep e2.1 (by decide)
  rw [e1, f_X8_laysLiked_60, r77_1, Option.bind_some, hZ3.2.1, if_pos (nI_le (Nat.le_refl _) (by omega))]
  refine ⟨s2, rfl, fun a b ha hb hne => ?_, fun a b ha hb => e3 a b ha hb (by omega), g2.tr (e2.mono (by simp))⟩
  rw [(e2.1 88 (by decide)).1]
  exact hL1 a b ha hb hne
theorem lays8 {s : zS} (hZ : ZM s n G M c0 c1) : ∃ s', f_X8_lays s = some ((), s') ∧ ZC8 s' n G ∧ ZL8 s' n G M c1 ∧ ZT8 s' n G M c0 c1 ∧ zk_m [81, 82, 83, 84, 85, 86, 87, 88, 89] s s' := by
  obtain ⟨s1, a1, a2, a3⟩ := laysC8 hZ
  obtain ⟨s2, b1, b2, b3, b4⟩ := laysL8 (hZ.keep a3.1 (by decide)) a2
  rw [f_X8_lays, a1, zbd_some, b1, zbd_some]
  exact ⟨s2, rfl, fun a b ha hb => by rw [(b4.1 87 (by decide)).1]; exact a2 a b ha hb, b2, b3, (a3.mono (by simp)).tr (b4.mono (by simp))⟩
end LAYS8
