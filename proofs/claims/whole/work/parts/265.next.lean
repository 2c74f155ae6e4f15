section NEXT
variable {b : Nat → Nat} {L p e : Nat} {s : zS}
/-- what the reference's lexer may change -/
def RX (s t : zS) : Prop := zk_k [76] s t ∧ ∀ j, j ≠ 6 → j ≠ 7 → j ≠ 9 → j ≠ 10 → t.1 76 j = s.1 76 j
theorem RX.rf : RX s s := ⟨zk_k.rf, fun _ _ _ _ _ => rfl⟩
theorem RX.tr {t u : zS} (h1 : RX s t) (h2 : RX t u) : RX s u := ⟨h1.1.tr h2.1, fun j a b c d => (h2.2 j a b c d).trans (h1.2 j a b c d)⟩
theorem RX.f {j : Nat} {v : Int32} (hj : j = 6 ∨ j = 7 ∨ j = 9 ∨ j = 10) : RX s (zs_i s 76 j v) := ⟨zk_k.rf.i (by simp), fun i h6 h7 h9 h10 => zs_i_o _ _ _ _ _ (by omega)⟩
theorem T8.x {t : zS} (hT : T8 s b L) (h : RX s t) : T8 t b L := ⟨hT.1, by rw [h.2 8 (by decide) (by decide) (by decide) (by decide)]; exact hT.2.1, fun i hi => by rw [(h.1 79 (by decide)).1]; exact hT.2.2 i hi⟩
theorem see8 (hT : T8 s b L) {q : Nat} (hq : q < 2 ^ 31) : f_X8_see (nI q) s = some (if q < L then nI (b q) else -1, s) := by
  have hL := hT.1
  unfold f_X8_see f_X8_see_18
  rw [hT.2.1]
  by_cases h : q < L
  · rw [if_neg (nI_ge h (by omega)), rd_79 s q rfl (by omega), Option.bind_some, (hT.2.2 q h).2, if_pos h]
  · rw [if_pos (nI_le (by omega) hq), if_neg h]
theorem m1_let (s : zS) : f_X8_isSmall (-1) s = some (0, s) := rfl
theorem m1_dig (s : zS) : f_X8_isDigit (-1) s = some (0, s) := rfl
/-- letters -/
theorem run8 : ∀ (k q f : Nat) (s : zS), T8 s b L → L - q ≤ k → q ≤ L → k < f → s.1 76 7 = nI q → ∃ s', RX s s' ∧ s'.1 76 6 = s.1 76 6 ∧ s'.1 76 7 = nI (lxE (fun i => lxL (b i)) L q) ∧ f_X8_next_89 f s = zbd (f_X8_keyAt s') fun r23 s24 => zb (zs_i s24 76 9 r23) fun s25 => f_X8_next_294 s25 := by
  intro k
  induction k with
  | zero =>
    intro q f s hT hk hq hf h7
    have hL := hT.1
    obtain ⟨f, rfl⟩ : ∃ r, f = r + 1 := ⟨f - 1, by omega⟩
    refine ⟨s, RX.rf, rfl, by rw [h7, lxE_n (fun z => by omega)], ?_⟩
    rw [f_X8_next_89, h7, see8 hT (by omega), zbd_some, if_neg (by omega), m1_let, zbd_some, if_pos rfl]
  | succ k ih =>
    intro q f s hT hk hq hf h7
    have hL := hT.1
    by_cases h : q < L ∧ lxL (b q) = true
    · obtain ⟨f, rfl⟩ : ∃ r, f = r + 1 := ⟨f - 1, by omega⟩
      have hx : RX s (zs_i s 76 7 (nI (q + 1))) := RX.f (by decide)
      obtain ⟨s', g1, g2, g3, g4⟩ := ih (q + 1) f (zs_i s 76 7 (nI (q + 1))) (hT.x hx) (by omega) (by omega) (by omega) (zs_i_v _ _ _ _)
      refine ⟨s', hx.tr g1, by rw [g2, zs_i_o _ _ _ _ _ (by decide)], by rw [g3, lxE_s (P := fun i => lxL (b i)) h.1 h.2], ?_⟩
      rw [f_X8_next_89, h7, see8 hT (by omega), zbd_some, if_pos h.1, let8 (hT.2.2 q h.1).1, zbd_some, if_pos h.2, if_neg (by decide), h7, zb_eq, nI_1, g4]
    · obtain ⟨f, rfl⟩ : ∃ r, f = r + 1 := ⟨f - 1, by omega⟩
      refine ⟨s, RX.rf, rfl, by rw [h7, lxE_n (P := fun i => lxL (b i)) h], ?_⟩
      rw [f_X8_next_89, h7, see8 hT (by omega), zbd_some]
      by_cases h1 : q < L
      · rw [if_pos h1, let8 (hT.2.2 q h1).1, zbd_some, if_neg (fun z => h ⟨h1, z⟩), if_pos rfl]
      · rw [if_neg h1, m1_let, zbd_some, if_pos rfl]
/-- signs -/
theorem sign8 {c : Nat} (hc : c < 256) : ∀ (k i f : Nat) (s : zS), i + k = 12 → k < f → T8 s b L → p < L → b p = c → s.1 76 6 = nI p → s.1 76 9 = nI (lxZ c i) → ∃ s', f_X8_next_254 f (nI i) s = some ((), s') ∧ RX s s' ∧ s'.1 76 6 = s.1 76 6 ∧ s'.1 76 7 = s.1 76 7 ∧ s'.1 76 9 = nI (lxZ c 12) := by
  have len1 : ∀ t : zS, f_J0_length_8abf5 1 t = some (nI 12, t) := fun t => len_ok (by decide) t
  intro k
  induction k with
  | zero =>
    intro i f s hi hf hT hp hb h6 h9
    obtain ⟨f, rfl⟩ : ∃ r, f = r + 1 := ⟨f - 1, by omega⟩
    have : i = 12 := by omega
    subst this
    exact ⟨s, by rw [f_X8_next_254, len1, zbd_some, if_pos (nI_le (Nat.le_refl _) (by decide))]; rfl, RX.rf, rfl, rfl, h9⟩
  | succ k ih =>
    intro i f s hi hf hT hp hb h6 h9
    have hL := hT.1
    obtain ⟨f, rfl⟩ : ∃ r, f = r + 1 := ⟨f - 1, by omega⟩
    have hi12 : i < 12 := by omega
    obtain ⟨-, hlt, -⟩ := lxc_ok 1 (by decide) i hi12
    rw [f_X8_next_254, len1, zbd_some, if_neg (nI_ge hi12 (by omega)), h6, see8 hT (by omega), zbd_some, if_pos hp, hb, char_ok (by decide) (show i < 12 from hi12), zbd_some]
    by_cases h : c = lxc 1 i
    · have hx : RX s (zs_i s 76 9 (nI (30 + i))) := RX.f (by decide)
      obtain ⟨s', g1, g2, g3, g4, g5⟩ := ih (i + 1) f (zs_i s 76 9 (nI (30 + i))) (by omega) (by omega) (hT.x hx) hp hb (by rw [zs_i_o _ _ _ _ _ (by decide)]; exact h6) (by
        rw [zs_i_v]
        show _ = nI (if c = lxc 1 i then 30 + i else lxZ c i)
        rw [if_pos h])
      refine ⟨s', ?_, hx.tr g2, by rw [g3, zs_i_o _ _ _ _ _ (by decide), h6], by rw [g4, zs_i_o _ _ _ _ _ (by decide)], g5⟩
      rw [if_neg (fun z => z (by rw [← h])), nI_add, zb_eq, f_X8_next_288, zb_eq, nI_1, g1]
    · obtain ⟨s', g1, g2, g3, g4, g5⟩ := ih (i + 1) f s (by omega) (by omega) hT hp hb h6 (by
        show _ = nI (if c = lxc 1 i then 30 + i else lxZ c i)
        rw [if_neg h]; exact h9)
      refine ⟨s', ?_, g2, g3.trans h6, g4, g5⟩
      rw [if_pos (ne_of_nI h (by omega) (by omega)), f_X8_next_288, zb_eq, nI_1, g1]
/-- digits -/
theorem digs8 : ∀ (k q f : Nat) (s : zS), T8 s b L → L - q ≤ k → p ≤ q → q ≤ L → k < f → s.1 76 6 = nI p → s.1 76 7 = nI q → s.1 76 10 = nI (lxU b p (min (q - p) 3)) → ∃ s', f_X8_next_146 f s = some ((), s') ∧ RX s s' ∧ s'.1 76 6 = nI p ∧ s'.1 76 7 = nI (lxE (fun i => lxD (b i)) L q) ∧ s'.1 76 9 = nI (if lxE (fun i => lxD (b i)) L q - p ≤ 3 then 23 else 25) ∧ (lxE (fun i => lxD (b i)) L q - p ≤ 3 → s'.1 76 10 = nI (lxU b p (lxE (fun i => lxD (b i)) L q - p))) := by
  intro k
  induction k with
  | zero =>
    intro q f s hT hk hpq hq hf h6 h7 h10
    have hL := hT.1
    obtain ⟨f, rfl⟩ : ∃ r, f = r + 1 := ⟨f - 1, by omega⟩
    have ee : lxE (fun i => lxD (b i)) L q = q := lxE_n (fun z => by omega)
    rw [f_X8_next_146, h7, see8 hT (by omega), zbd_some, if_neg (by omega), m1_dig, zbd_some, if_pos rfl, h7, h6, pk_sub hpq, ee]
    by_cases h3 : q - p ≤ 3
    · rw [if_pos (nI_le h3 (by decide)), if_pos h3]
      exact ⟨zs_i s 76 9 (nI 23), rfl, RX.f (by decide), by rw [zs_i_o _ _ _ _ _ (by decide)]; exact h6, by rw [zs_i_o _ _ _ _ _ (by decide)]; exact h7, zs_i_v _ _ _ _, fun _ => by rw [zs_i_o _ _ _ _ _ (by decide), h10, Nat.min_eq_left h3]⟩
    · rw [if_neg (nI_ge (by omega) (by omega)), if_neg h3]
      exact ⟨zs_i s 76 9 (nI 25), rfl, RX.f (by decide), by rw [zs_i_o _ _ _ _ _ (by decide)]; exact h6, by rw [zs_i_o _ _ _ _ _ (by decide)]; exact h7, zs_i_v _ _ _ _, fun z => absurd z h3⟩
  | succ k ih =>
    intro q f s hT hk hpq hq hf h6 h7 h10
    have hL := hT.1
    obtain ⟨f, rfl⟩ : ∃ r, f = r + 1 := ⟨f - 1, by omega⟩
    by_cases h : q < L ∧ lxD (b q) = true
    · have hdi := of_decide_eq_true (show decide (48 ≤ b q ∧ b q ≤ 57) = true from h.2)
      have ee : lxE (fun i => lxD (b i)) L q = lxE (fun i => lxD (b i)) L (q + 1) := lxE_s (P := fun i => lxD (b i)) h.1 h.2
      rw [f_X8_next_146, h7, see8 hT (by omega), zbd_some, if_pos h.1, dig8 (hT.2.2 q h.1).1, zbd_some, if_pos h.2, if_neg (by decide), h7, h6, pk_sub hpq, ee]
      by_cases h3 : 3 ≤ q - p
      · have hx : RX s (zs_i s 76 7 (nI (q + 1))) := RX.f (by decide)
        obtain ⟨s', g1, g2, g3, g4, g5, g6⟩ := ih (q + 1) f (zs_i s 76 7 (nI (q + 1))) (hT.x hx) (by omega) (by omega) (by omega) (by omega) (by rw [zs_i_o _ _ _ _ _ (by decide)]; exact h6) (zs_i_v _ _ _ _) (by rw [zs_i_o _ _ _ _ _ (by decide), h10, Nat.min_eq_right h3, Nat.min_eq_right (by omega)])
        refine ⟨s', ?_, hx.tr g2, g3, g4, g5, g6⟩
        rw [if_pos (nI_le h3 (by omega)), f_X8_next_196, h7, nI_1, zb_eq, g1]
      · have hv : nI 10 * nI (lxU b p (min (q - p) 3)) + nI (b q) - nI 48 = nI (lxU b p (min (q + 1 - p) 3)) := by
          rw [Nat.min_eq_left (by omega), Nat.min_eq_left (by omega), show q + 1 - p = (q - p) + 1 by omega, pk_mul, nI_add, pk_sub (by omega)]
          show nI _ = nI (10 * lxU b p (q - p) + (b (p + (q - p)) - 48))
          rw [show p + (q - p) = q by omega, show 10 * lxU b p (q - p) + b q - 48 = 10 * lxU b p (q - p) + (b q - 48) by omega]
        have hx : RX s (zs_i (zs_i s 76 10 (nI (lxU b p (min (q + 1 - p) 3)))) 76 7 (nI (q + 1))) := RX.tr (RX.f (by decide)) (RX.f (by decide))
        obtain ⟨s', g1, g2, g3, g4, g5, g6⟩ := ih (q + 1) f _ (hT.x hx) (by omega) (by omega) (by omega) (by omega) (by rw [zs_i_o _ _ _ _ _ (by decide), zs_i_o _ _ _ _ _ (by decide)]; exact h6) (zs_i_v _ _ _ _) (by rw [zs_i_o _ _ _ _ _ (by decide), zs_i_v])
        refine ⟨s', ?_, hx.tr g2, g3, g4, g5, g6⟩
        rw [if_neg (nI_ge (by omega) (by omega)), see8 hT (by omega), zbd_some, if_pos h.1, h10, hv, zb_eq, f_X8_next_196, zs_i_o _ _ _ _ _ (by decide), h7, nI_1, zb_eq, g1]
    · have ee : lxE (fun i => lxD (b i)) L q = q := lxE_n (P := fun i => lxD (b i)) h
      have hd : zbd (f_X8_see (nI q) s) (fun r12 s13 => f_X8_isDigit r12 s13) = some (0, s) := by
        rw [see8 hT (by omega), zbd_some]
        by_cases h1 : q < L
        · rw [if_pos h1, dig8 (hT.2.2 q h1).1, if_neg (fun z => h ⟨h1, z⟩)]
        · rw [if_neg h1, m1_dig]
      have hd2 : ∃ r, f_X8_see (nI q) s = some (r, s) ∧ f_X8_isDigit r s = some (0, s) := by
        rw [see8 hT (by omega), zbd_some] at hd
        exact ⟨_, see8 hT (by omega), hd⟩
      obtain ⟨r, hr1, hr2⟩ := hd2
      rw [f_X8_next_146, h7, hr1, zbd_some, hr2, zbd_some, if_pos rfl, h7, h6, pk_sub hpq, ee]
      by_cases h3 : q - p ≤ 3
      · rw [if_pos (nI_le h3 (by decide)), if_pos h3]
        exact ⟨zs_i s 76 9 (nI 23), rfl, RX.f (by decide), by rw [zs_i_o _ _ _ _ _ (by decide)]; exact h6, by rw [zs_i_o _ _ _ _ _ (by decide)]; exact h7, zs_i_v _ _ _ _, fun _ => by rw [zs_i_o _ _ _ _ _ (by decide), h10, Nat.min_eq_left h3]⟩
      · rw [if_neg (nI_ge (by omega) (by omega)), if_neg h3]
        exact ⟨zs_i s 76 9 (nI 25), rfl, RX.f (by decide), by rw [zs_i_o _ _ _ _ _ (by decide)]; exact h6, by rw [zs_i_o _ _ _ _ _ (by decide)]; exact h7, zs_i_v _ _ _ _, fun z => absurd z h3⟩
theorem blank8 : ∀ (k q f : Nat) (s : zS), T8 s b L → L - q ≤ k → q ≤ L → k < f → s.1 76 6 = nI q → ∃ s' f', f_X8_next_8 f s = f_X8_next_8 (f' + 1) s' ∧ RX s s' ∧ s'.1 76 6 = nI (lxE (fun i => lxS (b i)) L q) := by
  intro k
  induction k with
  | zero =>
    intro q f s hT hk hq hf h6
    obtain ⟨f, rfl⟩ : ∃ r, f = r + 1 := ⟨f - 1, by omega⟩
    exact ⟨s, f, rfl, RX.rf, by rw [h6, lxE_n (fun z => by omega)]⟩
  | succ k ih =>
    intro q f s hT hk hq hf h6
    have hL := hT.1
    obtain ⟨f, rfl⟩ : ∃ r, f = r + 1 := ⟨f - 1, by omega⟩
    by_cases h : q < L ∧ lxS (b q) = true
    · have hs2 := of_decide_eq_true (show decide (b q = 10 ∨ b q = 32) = true from h.2)
      have hx : RX s (zs_i s 76 6 (nI (q + 1))) := RX.f (by decide)
      obtain ⟨s', f', g1, g2, g3⟩ := ih (q + 1) f (zs_i s 76 6 (nI (q + 1))) (hT.x hx) (by omega) (by omega) (by omega) (zs_i_v _ _ _ _)
      refine ⟨s', f', ?_, hx.tr g2, by rw [g3, lxE_s (P := fun i => lxS (b i)) h.1 h.2]⟩
      rw [← g1, f_X8_next_8, h6, see8 hT (by omega), zbd_some, if_pos h.1]
      rcases hs2 with e | e
      · rw [if_pos (by rw [e]), f_X8_next_34, h6, nI_1, zb_eq]
      · rw [if_neg (by rw [e]; decide), h6, see8 hT (by omega), zbd_some, if_pos h.1, if_neg (fun z => z (by rw [e])), f_X8_next_34, h6, nI_1, zb_eq]
    · exact ⟨s, f, rfl, RX.rf, by rw [h6, lxE_n (P := fun i => lxS (b i)) h]⟩
end NEXT
