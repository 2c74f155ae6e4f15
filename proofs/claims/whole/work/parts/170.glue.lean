theorem zb_eq {α β : Type} (a : α) (f : α → β) : zb a f = f a := rfl
theorem zbd_some {α β : Type} (a : α) (s : zS) (f : α → zS → Option β) : zbd (some (a, s)) f = f a s := rfl
theorem zbd_none {α β : Type} (f : α → zS → Option β) : zbd (none : Option (α × zS)) f = none := rfl
theorem rx_at {xs : Nat → Int32} {L i : Nat} {x : Int32} (j : Nat) (hx : x = nI j) (h : i + j < L) (hL : L ≤ 3072) : zr_x xs L (nI i + x) = some (xs (i + j)) := by
  rw [hx, nI_add, zr_x, if_pos (nI_in h (by omega)), nI_clamp (by omega)]
theorem rx_0 {xs : Nat → Int32} {L i : Nat} (h : i < L) (hL : L ≤ 3072) : zr_x xs L (nI i) = some (xs i) := by
  rw [zr_x, if_pos (nI_in h (by omega)), nI_clamp (by omega)]
theorem rx_end {L i : Nat} (hL : L ≤ 3072) (hi : i ≤ L) : (nI L - nI 6 < nI i) ↔ L < i + 6 := by
  have e : (nI L - nI 6).toInt = (L : Int) - 6 := pk_sub_toInt (a := L) (b := 6) (by omega) (by omega)
  rw [Int32.lt_iff_toInt_lt, e, nI_toInt (by omega)]
  omega
/-- what one kind of call must keep -/
def zJ_op {ρ : Type} (J : Nat → zS → Prop) (f g : zS → Option (ρ × zS)) : Prop := ∀ (n : Nat) (s : zS), n < 512 → J n s → ∃ (r : ρ) (s1 s2 : zS), f s = some (r, s1) ∧ g s1 = some (r, s2) ∧ J (n + 1) s2
set_option maxRecDepth 40000 in
set_option maxHeartbeats 8000000 in
theorem law_ok {J : Nat → zS → Prop} (hJ1 : ∀ n s, J n s → J (n + 1) s) (h_feed : ∀ (a0 a1 a2 a3 a4 : Int32), zJ_op J (f_X7_feed a0 a1 a2 a3 a4) (f_X8_feed a0 a1 a2 a3 a4)) (h_society : ∀ (a0 : Int32), zJ_op J (f_X7_society a0) (f_X8_society a0)) (h_fault : ∀ (a0 : Int32), zJ_op J (f_X7_fault a0) (f_X8_fault a0)) (h_person : ∀ (a0 a1 : Int32), zJ_op J (f_X7_person a0 a1) (f_X8_person a0 a1)) (h_crosses : ∀ (a0 a1 : Int32), zJ_op J (f_X7_crosses a0 a1) (f_X8_crosses a0 a1)) (h_likes : ∀ (a0 a1 : Int32), zJ_op J (f_X7_likes a0 a1) (f_X8_likes a0 a1)) (h_engage : ∀ (a0 a1 : Int32), zJ_op J (f_X7_engage a0 a1) (f_X8_engage a0 a1)) (h_part : ∀ (a0 : Int32), zJ_op J (f_X7_part a0) (f_X8_part a0)) (h_stroke : ∀ (a0 a1 : Int32), zJ_op J (f_X7_stroke a0 a1) (f_X8_stroke a0 a1)) (h_mark : ∀ (a0 a1 : Int32), zJ_op J (f_X7_mark a0 a1) (f_X8_mark a0 a1)) (h_undo : ∀ (a0 : Int32), zJ_op J (f_X7_undo a0) (f_X8_undo a0)) (h_judge : ∀ (a0 a1 : Int32), zJ_op J (f_X7_judge a0 a1) (f_X8_judge a0 a1)) (h_perform : ∀ (a0 : Int32), zJ_op J (f_X7_perform a0) (f_X8_perform a0)) (h_year : ∀ (a0 a1 : Int32), zJ_op J (f_X7_year a0 a1) (f_X8_year a0 a1)) (h_holds : zJ_op J (f_X7_holds) (f_X8_holds)) (h_breaks : zJ_op J (f_X7_breaks) (f_X8_breaks)) (h_breaking : zJ_op J (f_X7_breaking) (f_X8_breaking)) (h_pairings : zJ_op J (f_X7_pairings) (f_X8_pairings)) (h_partner : ∀ (a0 a1 : Int32), zJ_op J (f_X7_partner a0 a1) (f_X8_partner a0 a1)) (h_can : ∀ (a0 : Int32), zJ_op J (f_X7_can a0) (f_X8_can a0)) (h_sure : zJ_op J (f_X7_sure) (f_X8_sure)) (h_most : zJ_op J (f_X7_most) (f_X8_most)) (h_triangle : zJ_op J (f_X7_triangle) (f_X8_triangle)) (h_monogram : ∀ (a0 a1 : Int32), zJ_op J (f_X7_monogram a0 a1) (f_X8_monogram a0 a1)) (h_fits : ∀ (a0 : Int32), zJ_op J (f_X7_fits a0) (f_X8_fits a0)) (h_largest : zJ_op J (f_X7_largest) (f_X8_largest)) (h_misfits : zJ_op J (f_X7_misfits) (f_X8_misfits)) (h_change : ∀ (a0 a1 a2 : Int32), zJ_op J (f_X7_change a0 a1 a2) (f_X8_change a0 a1 a2)) (h_blot : ∀ (a0 : Int32), zJ_op J (f_X7_blot a0) (f_X8_blot a0)) (h_likely : ∀ (a0 a1 a2 : Int32), zJ_op J (f_X7_likely a0 a1 a2) (f_X8_likely a0 a1 a2)) (h_look : ∀ (a0 : Int32), zJ_op J (f_X7_look a0) (f_X8_look a0)) (h_marks : ∀ (a0 a1 : Int32), zJ_op J (f_X7_marks a0 a1) (f_X8_marks a0 a1)) (h_ask : ∀ (a0 a1 : Int32), zJ_op J (f_X7_ask a0 a1) (f_X8_ask a0 a1)) (h_wins : ∀ (a0 : Int32), zJ_op J (f_X7_wins a0) (f_X8_wins a0)) (h_best : ∀ (a0 : Int32), zJ_op J (f_X7_best a0) (f_X8_best a0)) (h_lasts : ∀ (a0 : Int32), zJ_op J (f_X7_lasts a0) (f_X8_lasts a0)) (h_chance : ∀ (a0 a1 : Int32), zJ_op J (f_X7_chance a0 a1) (f_X8_chance a0 a1)) (h_likeliest : ∀ (a0 : Int32), zJ_op J (f_X7_likeliest a0) (f_X8_likeliest a0)) (h_numbers : ∀ (a0 a1 a2 : Int32), zJ_op J (f_X7_numbers a0 a1 a2) (f_X8_numbers a0 a1 a2)) (h_write : ∀ (a b : Int32) (v : Int64), zJ_op J (f_X7_write a b v) (f_X8_write a b v)) (h_lists : ∀ (a0 a1 : Int32), zJ_op J (f_X7_lists a0 a1) (f_X8_lists a0 a1)) (h_image : ∀ (a0 : Int32), zJ_op J (f_X7_image a0) (f_X8_image a0)) (h_restore : ∀ (a0 : Int32), zJ_op J (f_X7_restore a0) (f_X8_restore a0)) (h_count : ∀ (a0 : Int32), zJ_op J (f_X7_count a0) (f_X8_count a0)) (xs : Nat → Int32) (L : Nat) (hL : L ≤ 3072) : ∀ (n i j : Nat) (s : zS), i ≤ L → i = 6 * j → 600 ≤ n + j → J j s → ∃ t, f_L_law_18 xs L n (nI i) s = some ((), t) := by
  intro n
  induction n with
  | zero =>
    intro i j s hi hij hn hJ
    omega
  | succ n ih =>
    intro i j s hi hij hn hJ
    rw [f_L_law_18]
    by_cases hc : nI L - nI 6 < nI i
    · rw [if_pos hc]; exact ⟨_, rfl⟩
    have hl : i + 6 ≤ L := by
      have : ¬ L < i + 6 := fun h => hc ((rx_end hL hi).mpr h)
      omega
    rw [if_neg hc, rx_0 (by omega) hL]
    have nx : ∀ s2, J (j + 1) s2 → ∃ t, f_L_law_1437 xs L (f_L_law_18 xs L n) (nI i) s2 = some ((), t) := by
      intro s2 h2
      rw [f_L_law_1437, zb_eq, nI_add]
      exact ih (i + 6) (j + 1) s2 (by omega) (by omega) (by omega) h2
    have e1 : zr_x xs L (nI i + (1 : Int32)) = some (xs (i + 1)) := rx_at 1 rfl (by omega) hL
    have e2 : zr_x xs L (nI i + nI 2) = some (xs (i + 2)) := rx_at 2 rfl (by omega) hL
    have e3 : zr_x xs L (nI i + nI 3) = some (xs (i + 3)) := rx_at 3 rfl (by omega) hL
    have e4 : zr_x xs L (nI i + nI 4) = some (xs (i + 4)) := rx_at 4 rfl (by omega) hL
    have e5 : zr_x xs L (nI i + nI 5) = some (xs (i + 5)) := rx_at 5 rfl (by omega) hL
    simp only [Option.bind_some, e1, e2, e3, e4, e5]
    by_cases h0 : xs i &&& nI 63 = 0
    · rw [if_pos h0]
      obtain ⟨r, s1, s2, g1, g2, g3⟩ := h_feed (xs (i + 1)) (xs (i + 2)) (xs (i + 3)) (xs (i + 4)) (xs (i + 5)) j s (by omega) hJ
      simp only [g1, g2, zbd_some, if_true]
      exact nx s2 g3
    rw [if_neg h0]
    by_cases h1 : xs i &&& nI 63 = 1
    · rw [if_pos h1]
      obtain ⟨r, s1, s2, g1, g2, g3⟩ := h_society (xs (i + 1)) j s (by omega) hJ
      simp only [g1, g2, zbd_some, if_true]
      exact nx s2 g3
    rw [if_neg h1]
    by_cases h2 : xs i &&& nI 63 = nI 2
    · rw [if_pos h2]
      obtain ⟨r, s1, s2, g1, g2, g3⟩ := h_fault (xs (i + 1)) j s (by omega) hJ
      simp only [g1, g2, zbd_some, if_true]
      exact nx s2 g3
    rw [if_neg h2]
    by_cases h3 : xs i &&& nI 63 = nI 3
    · rw [if_pos h3]
      obtain ⟨r, s1, s2, g1, g2, g3⟩ := h_person (xs (i + 1)) (xs (i + 2)) j s (by omega) hJ
      simp only [g1, g2, zbd_some, if_true]
      exact nx s2 g3
    rw [if_neg h3]
    by_cases h4 : xs i &&& nI 63 = nI 4
    · rw [if_pos h4]
      obtain ⟨r, s1, s2, g1, g2, g3⟩ := h_crosses (xs (i + 1)) (xs (i + 2)) j s (by omega) hJ
      simp only [g1, g2, zbd_some, if_true]
      exact nx s2 g3
    rw [if_neg h4]
    by_cases h5 : xs i &&& nI 63 = nI 5
    · rw [if_pos h5]
      obtain ⟨r, s1, s2, g1, g2, g3⟩ := h_likes (xs (i + 1)) (xs (i + 2)) j s (by omega) hJ
      simp only [g1, g2, zbd_some, if_true]
      exact nx s2 g3
    rw [if_neg h5]
    by_cases h6 : xs i &&& nI 63 = nI 6
    · rw [if_pos h6]
      obtain ⟨r, s1, s2, g1, g2, g3⟩ := h_engage (xs (i + 1)) (xs (i + 2)) j s (by omega) hJ
      simp only [g1, g2, zbd_some, if_true]
      exact nx s2 g3
    rw [if_neg h6]
    by_cases h7 : xs i &&& nI 63 = nI 7
    · rw [if_pos h7]
      obtain ⟨r, s1, s2, g1, g2, g3⟩ := h_part (xs (i + 1)) j s (by omega) hJ
      simp only [g1, g2, zbd_some, if_true]
      exact nx s2 g3
    rw [if_neg h7]
    by_cases h8 : xs i &&& nI 63 = nI 8
    · rw [if_pos h8]
      obtain ⟨r, s1, s2, g1, g2, g3⟩ := h_stroke (xs (i + 1)) (xs (i + 2)) j s (by omega) hJ
      simp only [g1, g2, zbd_some, if_true]
      exact nx s2 g3
    rw [if_neg h8]
    by_cases h9 : xs i &&& nI 63 = nI 9
    · rw [if_pos h9]
      obtain ⟨r, s1, s2, g1, g2, g3⟩ := h_mark (xs (i + 1)) (xs (i + 2)) j s (by omega) hJ
      simp only [g1, g2, zbd_some, if_true]
      exact nx s2 g3
    rw [if_neg h9]
    by_cases h10 : xs i &&& nI 63 = nI 10
    · rw [if_pos h10]
      obtain ⟨r, s1, s2, g1, g2, g3⟩ := h_undo (xs (i + 1)) j s (by omega) hJ
      simp only [g1, g2, zbd_some, if_true]
      exact nx s2 g3
    rw [if_neg h10]
    by_cases h11 : xs i &&& nI 63 = nI 11
    · rw [if_pos h11]
      obtain ⟨r, s1, s2, g1, g2, g3⟩ := h_judge (xs (i + 1)) (xs (i + 2)) j s (by omega) hJ
      simp only [g1, g2, zbd_some, if_true]
      exact nx s2 g3
    rw [if_neg h11]
    by_cases h12 : xs i &&& nI 63 = nI 12
    · rw [if_pos h12]
      obtain ⟨r, s1, s2, g1, g2, g3⟩ := h_perform (xs (i + 1)) j s (by omega) hJ
      simp only [g1, g2, zbd_some, if_true]
      exact nx s2 g3
    rw [if_neg h12]
    by_cases h13 : xs i &&& nI 63 = nI 13
    · rw [if_pos h13]
      obtain ⟨r, s1, s2, g1, g2, g3⟩ := h_year (xs (i + 1)) (xs (i + 2)) j s (by omega) hJ
      simp only [g1, g2, zbd_some, if_true]
      exact nx s2 g3
    rw [if_neg h13]
    by_cases h14 : xs i &&& nI 63 = nI 14
    · rw [if_pos h14]
      obtain ⟨r, s1, s2, g1, g2, g3⟩ := h_holds  j s (by omega) hJ
      simp only [g1, g2, zbd_some, if_true]
      exact nx s2 g3
    rw [if_neg h14]
    by_cases h15 : xs i &&& nI 63 = nI 15
    · rw [if_pos h15]
      obtain ⟨r, s1, s2, g1, g2, g3⟩ := h_breaks  j s (by omega) hJ
      simp only [g1, g2, zbd_some, if_true]
      exact nx s2 g3
    rw [if_neg h15]
    by_cases h16 : xs i &&& nI 63 = nI 16
    · rw [if_pos h16]
      obtain ⟨r, s1, s2, g1, g2, g3⟩ := h_breaking  j s (by omega) hJ
      simp only [g1, g2, zbd_some, if_true]
      exact nx s2 g3
    rw [if_neg h16]
    by_cases h17 : xs i &&& nI 63 = nI 17
    · rw [if_pos h17]
      obtain ⟨r, s1, s2, g1, g2, g3⟩ := h_pairings  j s (by omega) hJ
      simp only [g1, g2, zbd_some, if_true]
      exact nx s2 g3
    rw [if_neg h17]
    by_cases h18 : xs i &&& nI 63 = nI 18
    · rw [if_pos h18]
      obtain ⟨r, s1, s2, g1, g2, g3⟩ := h_partner (xs (i + 1)) (xs (i + 2)) j s (by omega) hJ
      simp only [g1, g2, zbd_some, if_true]
      exact nx s2 g3
    rw [if_neg h18]
    by_cases h19 : xs i &&& nI 63 = nI 19
    · rw [if_pos h19]
      obtain ⟨r, s1, s2, g1, g2, g3⟩ := h_can (xs (i + 1)) j s (by omega) hJ
      simp only [g1, g2, zbd_some, if_true]
      exact nx s2 g3
    rw [if_neg h19]
    by_cases h20 : xs i &&& nI 63 = nI 20
    · rw [if_pos h20]
      obtain ⟨r, s1, s2, g1, g2, g3⟩ := h_sure  j s (by omega) hJ
      simp only [g1, g2, zbd_some, if_true]
      exact nx s2 g3
    rw [if_neg h20]
    by_cases h21 : xs i &&& nI 63 = nI 21
    · rw [if_pos h21]
      obtain ⟨r, s1, s2, g1, g2, g3⟩ := h_most  j s (by omega) hJ
      simp only [g1, g2, zbd_some, if_true]
      exact nx s2 g3
    rw [if_neg h21]
    by_cases h22 : xs i &&& nI 63 = nI 22
    · rw [if_pos h22]
      obtain ⟨r, s1, s2, g1, g2, g3⟩ := h_triangle  j s (by omega) hJ
      simp only [g1, g2, zbd_some, if_true]
      exact nx s2 g3
    rw [if_neg h22]
    by_cases h23 : xs i &&& nI 63 = nI 23
    · rw [if_pos h23]
      obtain ⟨r, s1, s2, g1, g2, g3⟩ := h_monogram (xs (i + 1)) (xs (i + 2)) j s (by omega) hJ
      simp only [g1, g2, zbd_some, if_true]
      exact nx s2 g3
    rw [if_neg h23]
    by_cases h24 : xs i &&& nI 63 = nI 24
    · rw [if_pos h24]
      obtain ⟨r, s1, s2, g1, g2, g3⟩ := h_fits (xs (i + 1)) j s (by omega) hJ
      simp only [g1, g2, zbd_some, if_true]
      exact nx s2 g3
    rw [if_neg h24]
    by_cases h25 : xs i &&& nI 63 = nI 25
    · rw [if_pos h25]
      obtain ⟨r, s1, s2, g1, g2, g3⟩ := h_largest  j s (by omega) hJ
      simp only [g1, g2, zbd_some, if_true]
      exact nx s2 g3
    rw [if_neg h25]
    by_cases h26 : xs i &&& nI 63 = nI 26
    · rw [if_pos h26]
      obtain ⟨r, s1, s2, g1, g2, g3⟩ := h_misfits  j s (by omega) hJ
      simp only [g1, g2, zbd_some, if_true]
      exact nx s2 g3
    rw [if_neg h26]
    by_cases h27 : xs i &&& nI 63 = nI 27
    · rw [if_pos h27]
      obtain ⟨r, s1, s2, g1, g2, g3⟩ := h_change (xs (i + 1)) (xs (i + 2)) (xs (i + 3)) j s (by omega) hJ
      simp only [g1, g2, zbd_some, if_true]
      exact nx s2 g3
    rw [if_neg h27]
    by_cases h28 : xs i &&& nI 63 = nI 28
    · rw [if_pos h28]
      obtain ⟨r, s1, s2, g1, g2, g3⟩ := h_blot (xs (i + 1)) j s (by omega) hJ
      simp only [g1, g2, zbd_some, if_true]
      exact nx s2 g3
    rw [if_neg h28]
    by_cases h29 : xs i &&& nI 63 = nI 29
    · rw [if_pos h29]
      obtain ⟨r, s1, s2, g1, g2, g3⟩ := h_likely (xs (i + 1)) (xs (i + 2)) (xs (i + 3)) j s (by omega) hJ
      simp only [g1, g2, zbd_some, if_true]
      exact nx s2 g3
    rw [if_neg h29]
    by_cases h30 : xs i &&& nI 63 = nI 30
    · rw [if_pos h30]
      obtain ⟨r, s1, s2, g1, g2, g3⟩ := h_look (xs (i + 1)) j s (by omega) hJ
      simp only [g1, g2, zbd_some, if_true]
      exact nx s2 g3
    rw [if_neg h30]
    by_cases h31 : xs i &&& nI 63 = nI 31
    · rw [if_pos h31]
      obtain ⟨r, s1, s2, g1, g2, g3⟩ := h_marks (xs (i + 1)) (xs (i + 2)) j s (by omega) hJ
      simp only [g1, g2, zbd_some, if_true]
      exact nx s2 g3
    rw [if_neg h31]
    by_cases h32 : xs i &&& nI 63 = nI 32
    · rw [if_pos h32]
      obtain ⟨r, s1, s2, g1, g2, g3⟩ := h_ask (xs (i + 1)) (xs (i + 2)) j s (by omega) hJ
      simp only [g1, g2, zbd_some, if_true]
      exact nx s2 g3
    rw [if_neg h32]
    by_cases h33 : xs i &&& nI 63 = nI 33
    · rw [if_pos h33]
      obtain ⟨r, s1, s2, g1, g2, g3⟩ := h_wins (xs (i + 1)) j s (by omega) hJ
      simp only [g1, g2, zbd_some, if_true]
      exact nx s2 g3
    rw [if_neg h33]
    by_cases h34 : xs i &&& nI 63 = nI 34
    · rw [if_pos h34]
      obtain ⟨r, s1, s2, g1, g2, g3⟩ := h_best (xs (i + 1)) j s (by omega) hJ
      simp only [g1, g2, zbd_some, if_true]
      exact nx s2 g3
    rw [if_neg h34]
    by_cases h35 : xs i &&& nI 63 = nI 35
    · rw [if_pos h35]
      obtain ⟨r, s1, s2, g1, g2, g3⟩ := h_lasts (xs (i + 1)) j s (by omega) hJ
      simp only [g1, g2, zbd_some, if_true]
      exact nx s2 g3
    rw [if_neg h35]
    by_cases h36 : xs i &&& nI 63 = nI 36
    · rw [if_pos h36]
      obtain ⟨r, s1, s2, g1, g2, g3⟩ := h_chance (xs (i + 1)) (xs (i + 2)) j s (by omega) hJ
      simp only [g1, g2, zbd_some, if_true]
      exact nx s2 g3
    rw [if_neg h36]
    by_cases h37 : xs i &&& nI 63 = nI 37
    · rw [if_pos h37]
      obtain ⟨r, s1, s2, g1, g2, g3⟩ := h_likeliest (xs (i + 1)) j s (by omega) hJ
      simp only [g1, g2, zbd_some, if_true]
      exact nx s2 g3
    rw [if_neg h37]
    by_cases h38 : xs i &&& nI 63 = nI 38
    · rw [if_pos h38]
      obtain ⟨r, s1, s2, g1, g2, g3⟩ := h_numbers (xs (i + 1)) (xs (i + 2)) (xs (i + 3)) j s (by omega) hJ
      simp only [g1, g2, zbd_some, if_true]
      exact nx s2 g3
    rw [if_neg h38]
    by_cases h39 : xs i &&& nI 63 = nI 39
    · rw [if_pos h39]
      obtain ⟨r, s1, s2, g1, g2, g3⟩ := h_write (xs (i + 1)) (xs (i + 2)) ((zo_lshl ((xs (i + 3)).toInt64) (nI 32)) ||| (((xs (i + 4)).toInt64) &&& (4294967295 : Int64))) j s (by omega) hJ
      simp only [g1, g2, zbd_some, if_true]
      rw [if_pos (show lg_cmp r r = 0 by unfold lg_cmp; rw [if_neg (by simp), if_pos rfl])]
      exact nx s2 g3
    rw [if_neg h39]
    by_cases h40 : xs i &&& nI 63 = nI 40
    · rw [if_pos h40]
      obtain ⟨r, s1, s2, g1, g2, g3⟩ := h_lists (xs (i + 1)) (xs (i + 2)) j s (by omega) hJ
      simp only [g1, g2, zbd_some, if_true]
      exact nx s2 g3
    rw [if_neg h40]
    by_cases h41 : xs i &&& nI 63 = nI 41
    · rw [if_pos h41]
      obtain ⟨r, s1, s2, g1, g2, g3⟩ := h_image (xs (i + 1)) j s (by omega) hJ
      simp only [g1, g2, zbd_some, if_true]
      exact nx s2 g3
    rw [if_neg h41]
    by_cases h42 : xs i &&& nI 63 = nI 42
    · rw [if_pos h42]
      obtain ⟨r, s1, s2, g1, g2, g3⟩ := h_restore (xs (i + 1)) j s (by omega) hJ
      simp only [g1, g2, zbd_some, if_true]
      exact nx s2 g3
    rw [if_neg h42]
    by_cases h43 : xs i &&& nI 63 = nI 43
    · rw [if_pos h43]
      obtain ⟨r, s1, s2, g1, g2, g3⟩ := h_count (xs (i + 1)) j s (by omega) hJ
      simp only [g1, g2, zbd_some, if_true]
      exact nx s2 g3
    rw [if_neg h43]
    exact nx s (hJ1 j s hJ)
theorem law_all {J : Nat → zS → Prop} (h0 : J 0 zs_0) (hJ1 : ∀ n s, J n s → J (n + 1) s) (h_feed : ∀ (a0 a1 a2 a3 a4 : Int32), zJ_op J (f_X7_feed a0 a1 a2 a3 a4) (f_X8_feed a0 a1 a2 a3 a4)) (h_society : ∀ (a0 : Int32), zJ_op J (f_X7_society a0) (f_X8_society a0)) (h_fault : ∀ (a0 : Int32), zJ_op J (f_X7_fault a0) (f_X8_fault a0)) (h_person : ∀ (a0 a1 : Int32), zJ_op J (f_X7_person a0 a1) (f_X8_person a0 a1)) (h_crosses : ∀ (a0 a1 : Int32), zJ_op J (f_X7_crosses a0 a1) (f_X8_crosses a0 a1)) (h_likes : ∀ (a0 a1 : Int32), zJ_op J (f_X7_likes a0 a1) (f_X8_likes a0 a1)) (h_engage : ∀ (a0 a1 : Int32), zJ_op J (f_X7_engage a0 a1) (f_X8_engage a0 a1)) (h_part : ∀ (a0 : Int32), zJ_op J (f_X7_part a0) (f_X8_part a0)) (h_stroke : ∀ (a0 a1 : Int32), zJ_op J (f_X7_stroke a0 a1) (f_X8_stroke a0 a1)) (h_mark : ∀ (a0 a1 : Int32), zJ_op J (f_X7_mark a0 a1) (f_X8_mark a0 a1)) (h_undo : ∀ (a0 : Int32), zJ_op J (f_X7_undo a0) (f_X8_undo a0)) (h_judge : ∀ (a0 a1 : Int32), zJ_op J (f_X7_judge a0 a1) (f_X8_judge a0 a1)) (h_perform : ∀ (a0 : Int32), zJ_op J (f_X7_perform a0) (f_X8_perform a0)) (h_year : ∀ (a0 a1 : Int32), zJ_op J (f_X7_year a0 a1) (f_X8_year a0 a1)) (h_holds : zJ_op J (f_X7_holds) (f_X8_holds)) (h_breaks : zJ_op J (f_X7_breaks) (f_X8_breaks)) (h_breaking : zJ_op J (f_X7_breaking) (f_X8_breaking)) (h_pairings : zJ_op J (f_X7_pairings) (f_X8_pairings)) (h_partner : ∀ (a0 a1 : Int32), zJ_op J (f_X7_partner a0 a1) (f_X8_partner a0 a1)) (h_can : ∀ (a0 : Int32), zJ_op J (f_X7_can a0) (f_X8_can a0)) (h_sure : zJ_op J (f_X7_sure) (f_X8_sure)) (h_most : zJ_op J (f_X7_most) (f_X8_most)) (h_triangle : zJ_op J (f_X7_triangle) (f_X8_triangle)) (h_monogram : ∀ (a0 a1 : Int32), zJ_op J (f_X7_monogram a0 a1) (f_X8_monogram a0 a1)) (h_fits : ∀ (a0 : Int32), zJ_op J (f_X7_fits a0) (f_X8_fits a0)) (h_largest : zJ_op J (f_X7_largest) (f_X8_largest)) (h_misfits : zJ_op J (f_X7_misfits) (f_X8_misfits)) (h_change : ∀ (a0 a1 a2 : Int32), zJ_op J (f_X7_change a0 a1 a2) (f_X8_change a0 a1 a2)) (h_blot : ∀ (a0 : Int32), zJ_op J (f_X7_blot a0) (f_X8_blot a0)) (h_likely : ∀ (a0 a1 a2 : Int32), zJ_op J (f_X7_likely a0 a1 a2) (f_X8_likely a0 a1 a2)) (h_look : ∀ (a0 : Int32), zJ_op J (f_X7_look a0) (f_X8_look a0)) (h_marks : ∀ (a0 a1 : Int32), zJ_op J (f_X7_marks a0 a1) (f_X8_marks a0 a1)) (h_ask : ∀ (a0 a1 : Int32), zJ_op J (f_X7_ask a0 a1) (f_X8_ask a0 a1)) (h_wins : ∀ (a0 : Int32), zJ_op J (f_X7_wins a0) (f_X8_wins a0)) (h_best : ∀ (a0 : Int32), zJ_op J (f_X7_best a0) (f_X8_best a0)) (h_lasts : ∀ (a0 : Int32), zJ_op J (f_X7_lasts a0) (f_X8_lasts a0)) (h_chance : ∀ (a0 a1 : Int32), zJ_op J (f_X7_chance a0 a1) (f_X8_chance a0 a1)) (h_likeliest : ∀ (a0 : Int32), zJ_op J (f_X7_likeliest a0) (f_X8_likeliest a0)) (h_numbers : ∀ (a0 a1 a2 : Int32), zJ_op J (f_X7_numbers a0 a1 a2) (f_X8_numbers a0 a1 a2)) (h_write : ∀ (a b : Int32) (v : Int64), zJ_op J (f_X7_write a b v) (f_X8_write a b v)) (h_lists : ∀ (a0 a1 : Int32), zJ_op J (f_X7_lists a0 a1) (f_X8_lists a0 a1)) (h_image : ∀ (a0 : Int32), zJ_op J (f_X7_image a0) (f_X8_image a0)) (h_restore : ∀ (a0 : Int32), zJ_op J (f_X7_restore a0) (f_X8_restore a0)) (h_count : ∀ (a0 : Int32), zJ_op J (f_X7_count a0) (f_X8_count a0)) : ∀ (xs : Nat → Int32) (L : Nat), L ≤ 3072 → ∃ t : zS, f_L_law xs L zs_0 = some ((), t) := by
  intro xs L hL
  unfold f_L_law
  exact law_ok hJ1 h_feed h_society h_fault h_person h_crosses h_likes h_engage h_part h_stroke h_mark h_undo h_judge h_perform h_year h_holds h_breaks h_breaking h_pairings h_partner h_can h_sure h_most h_triangle h_monogram h_fits h_largest h_misfits h_change h_blot h_likely h_look h_marks h_ask h_wins h_best h_lasts h_chance h_likeliest h_numbers h_write h_lists h_image h_restore h_count xs L hL zFU 0 0 zs_0 (by omega) rfl (by decide) h0
