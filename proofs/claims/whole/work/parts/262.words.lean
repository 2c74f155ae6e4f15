def lxb (b : Nat) : Int32 := (nI b).toInt8.toInt32
theorem by_1 : ∀ b, b < 256 → (lxb b &&& nI 255 = nI b) ∧ (lxb b < nI 97 ↔ (b < 97 ∨ 128 ≤ b)) ∧ (nI 122 < lxb b ↔ (122 < b ∧ b < 128)) ∧ (lxb b < nI 48 ↔ (b < 48 ∨ 128 ≤ b)) ∧ (nI 57 < lxb b ↔ (57 < b ∧ b < 128)) ∧ ∀ c, c < 128 → (lxb b = nI c ↔ b = c) := by decide +kernel
section WORDS
variable {b : Nat → Nat} {L p e : Nat} {s : zS}
def T7 (s : zS) (b : Nat → Nat) (L : Nat) : Prop := L ≤ 900 ∧ ∀ i, i < L → b i < 256 ∧ s.1 1 i = lxb (b i)
def T8 (s : zS) (b : Nat → Nat) (L : Nat) : Prop := L ≤ 900 ∧ s.1 76 8 = nI L ∧ ∀ i, i < L → b i < 256 ∧ s.1 79 i = nI (b i)
theorem let7 {c : Nat} (hc : c < 256) (s : zS) : f_X3_isLetter (lxb c) s = some (if lxL c then 1 else 0, s) := by
  obtain ⟨-, h1, h2, -⟩ := by_1 c hc
  unfold f_X3_isLetter f_X3_isLetter_16 f_X3_isLetter_17 lxL
  by_cases h : 97 ≤ c ∧ c ≤ 122
  · rw [if_neg (fun z => by have := h1.mp z; omega), if_neg (fun z => by have := h2.mp z; omega), if_pos (Or.inr rfl), if_pos (by simpa using h)]
  · by_cases h3 : lxb c < nI 97
    · rw [if_pos h3, if_pos (Or.inl rfl), if_neg (by simpa using h)]
    · rw [if_neg h3]
      have h4 : nI 122 < lxb c := h2.mpr (by have : ¬ (c < 97 ∨ 128 ≤ c) := fun z => h3 (h1.mpr z); omega)
      rw [if_pos h4, if_pos (Or.inl rfl), if_neg (by simpa using h)]
theorem dig7 {c : Nat} (hc : c < 256) (s : zS) : f_X3_isDigit (lxb c) s = some (if lxD c then 1 else 0, s) := by
  obtain ⟨-, -, -, h1, h2, -⟩ := by_1 c hc
  unfold f_X3_isDigit f_X3_isDigit_16 f_X3_isDigit_17 lxD
  by_cases h : 48 ≤ c ∧ c ≤ 57
  · rw [if_neg (fun z => by have := h1.mp z; omega), if_neg (fun z => by have := h2.mp z; omega), if_pos (Or.inr rfl), if_pos (by simpa using h)]
  · by_cases h3 : lxb c < nI 48
    · rw [if_pos h3, if_pos (Or.inl rfl), if_neg (by simpa using h)]
    · rw [if_neg h3]
      have h4 : nI 57 < lxb c := h2.mpr (by have : ¬ (c < 48 ∨ 128 ≤ c) := fun z => h3 (h1.mpr z); omega)
      rw [if_pos h4, if_pos (Or.inl rfl), if_neg (by simpa using h)]
theorem let8 {c : Nat} (hc : c < 256) (s : zS) : f_X8_isSmall (nI c) s = some (if lxL c then 1 else 0, s) := by
  unfold f_X8_isSmall f_X8_isSmall_16 f_X8_isSmall_17 lxL
  by_cases h3 : c < 97
  · rw [if_pos (nI_lt h3 (by omega)), if_pos (Or.inl rfl), if_neg (by simp; omega)]
  · rw [if_neg (nI_nlt (by omega) (by omega))]
    by_cases h4 : 122 < c
    · rw [if_pos (nI_lt h4 (by omega)), if_pos (Or.inl rfl), if_neg (by simp; omega)]
    · rw [if_neg (nI_nlt (by omega) (by omega)), if_pos (Or.inr rfl), if_pos (by simp; omega)]
theorem dig8 {c : Nat} (hc : c < 256) (s : zS) : f_X8_isDigit (nI c) s = some (if lxD c then 1 else 0, s) := by
  unfold f_X8_isDigit f_X8_isDigit_16 f_X8_isDigit_17 lxD
  by_cases h3 : c < 48
  · rw [if_pos (nI_lt h3 (by omega)), if_pos (Or.inl rfl), if_neg (by simp; omega)]
  · rw [if_neg (nI_nlt (by omega) (by omega))]
    by_cases h4 : 57 < c
    · rw [if_pos (nI_lt h4 (by omega)), if_pos (Or.inl rfl), if_neg (by simp; omega)]
    · rw [if_neg (nI_nlt (by omega) (by omega)), if_pos (Or.inr rfl), if_pos (by simp; omega)]
/-- a text that spells words, each with a blank behind it -/
def lxP (k N : Nat) : List (List Nat) → Nat → Prop
  | [], o => o = N
  | w :: l, o => (∀ i, i < w.length → lxc k (o + i) = w.getD i 0 ∧ w.getD i 0 ≠ 32 ∧ w.getD i 0 < 128) ∧ lxc k (o + w.length) = 32 ∧ o + w.length < N ∧ lxP k N l (o + w.length + 1)
def lxPb (k N : Nat) : List (List Nat) → Nat → Bool
  | [], o => decide (o = N)
  | w :: l, o => decide (∀ i, i < w.length → lxc k (o + i) = w.getD i 0 ∧ w.getD i 0 ≠ 32 ∧ w.getD i 0 < 128) && (decide (lxc k (o + w.length) = 32) && (decide (o + w.length < N) && lxPb k N l (o + w.length + 1)))
theorem lxP_of {k N : Nat} : ∀ (l : List (List Nat)) (o : Nat), lxPb k N l o = true → lxP k N l o := by
  intro l
  induction l with
  | nil => intro o h; exact (of_decide_eq_true h : o = N)
  | cons w l ih =>
    intro o h
    unfold lxPb at h
    simp only [Bool.and_eq_true, decide_eq_true_eq] at h
    exact ⟨h.1, h.2.1, h.2.2.1, ih _ h.2.2.2⟩
theorem spell0 : lxP 0 90 lxV 0 := lxP_of _ _ (by decide +kernel)
theorem spell2 : lxP 2 91 lxW 1 := lxP_of _ _ (by decide +kernel)
theorem len0 (s : zS) : f_J0_length_8abf5 0 s = some (nI 90, s) := len_ok (by decide) s
theorem len2 (s : zS) : f_J0_length_8abf5 2 s = some (nI 91, s) := len_ok (by decide) s
/-- how far a word goes along -/
abbrev lxG (b : Nat → Nat) (p e : Nat) (w : List Nat) (i : Nat) : Prop := p + i ≤ e ∧ ∀ k, k < i → b (p + k) = w.getD k 0
def lxO (b : Nat → Nat) (p e : Nat) (w : List Nat) (i : Nat) : Int32 := if lxG b p e w i then nI i else -1
theorem word7 (hT : T7 s b L) (hp : p ≤ e) (he : e ≤ L) {w : List Nat} {o j : Nat} (hw : ∀ i, i < w.length → lxc 0 (o + i) = w.getD i 0 ∧ w.getD i 0 ≠ 32 ∧ w.getD i 0 < 128) (ho : o + w.length < 90) : ∀ (k i g : Nat), i + k = w.length → f_X3_wordOf_8 (g + k) 1 (nI p) (nI e) (nI j) (lxO b p e w i) (nI (o + i)) s = f_X3_wordOf_8 g 1 (nI p) (nI e) (nI j) (lxO b p e w w.length) (nI (o + w.length)) s := by
  have hL := hT.1
  intro k
  induction k with
  | zero =>
    intro i g hi
    have : i = w.length := by omega
    subst this
    rfl
  | succ k ih =>
    intro i g hi
    obtain ⟨h1, h2, h3⟩ := hw i (by omega)
    have n32 : ¬ nI (lxc 0 (o + i)) = nI 32 := by rw [h1]; exact ne_of_nI h2 (by omega) (by omega)
    rw [show g + (k + 1) = (g + k) + 1 by omega, f_X3_wordOf_8, len0, zbd_some, if_neg (show ¬ nI 90 ≤ nI (o + i) from nI_ge (by omega) (by omega)), char_ok (by decide) (show o + i < 90 by omega), zbd_some, if_pos n32]
    have nxt : ∀ v : Int32, v = lxO b p e w (i + 1) → f_X3_wordOf_90 (f_X3_wordOf_8 (g + k)) 1 (nI p) (nI e) (nI j) v (nI (o + i)) s = f_X3_wordOf_8 g 1 (nI p) (nI e) (nI j) (lxO b p e w w.length) (nI (o + w.length)) s := fun v hv => by
      rw [f_X3_wordOf_90, zb_eq, nI_1, hv, show o + i + 1 = o + (i + 1) by omega]
      exact ih (i + 1) g (by omega)
    by_cases hg : lxG b p e w i
    · have eo : lxO b p e w i = nI i := if_pos hg
      have hle := hg.1
      rw [eo, if_neg (nI_pos (by omega)), nI_add]
      by_cases h5 : e ≤ p + i
      · rw [if_pos (nI_le h5 (by omega)), f_X3_wordOf_87]
        exact nxt _ (if_neg (fun z => by have := z.1; omega)).symm
      · obtain ⟨b1, b2⟩ := hT.2 (p + i) (by omega)
        rw [if_neg (nI_ge (by omega) (by omega)), rd_1 s (p + i) rfl (by omega), Option.bind_some, b2, h1]
        have hiff := (by_1 _ b1).2.2.2.2.2 (w.getD i 0) h3
        by_cases h6 : b (p + i) = w.getD i 0
        · rw [if_neg (fun z => z (hiff.mpr h6)), zb_eq, nI_1]
          refine nxt _ (if_pos ⟨by omega, fun q hq => ?_⟩).symm
          by_cases e1 : q = i
          · rw [e1]; exact h6
          · exact hg.2 q (by omega)
        · rw [if_pos (fun z => h6 (hiff.mp z)), f_X3_wordOf_87]
          exact nxt _ (if_neg (fun z => h6 (z.2 i (by omega)))).symm
    · have eo : lxO b p e w i = -1 := if_neg hg
      rw [eo, if_pos (by decide), f_X3_wordOf_87]
      exact nxt _ (if_neg (fun z => hg ⟨by have := z.1; omega, fun q hq => z.2 q (by omega)⟩)).symm
theorem words7 (hT : T7 s b L) (hp : p ≤ e) (he : e ≤ L) : ∀ (ws : List (List Nat)) (o j f : Nat), lxP 0 90 ws o → o ≤ 90 → 90 - o < f → j + ws.length < 1000 → f_X3_wordOf_8 f 1 (nI p) (nI e) (nI j) 0 (nI o) s = some (nI (lxI (lxT b p e) ws (1200 + j) 1002), s) := by
  have hL := hT.1
  intro ws
  induction ws with
  | nil =>
    intro o j f h ho hf _
    obtain ⟨f, rfl⟩ : ∃ r, f = r + 1 := ⟨f - 1, by omega⟩
    have h90 : o = 90 := h
    subst h90
    rw [f_X3_wordOf_8, len0, zbd_some, if_pos (show nI 90 ≤ nI 90 from nI_le (Nat.le_refl _) (by decide))]
    rfl
  | cons w ws ih =>
    intro o j f h ho hf hj
    obtain ⟨h1, h2, h3, h4⟩ := h
    simp only [List.length_cons] at hj
    have e0 : (0 : Int32) = lxO b p e w 0 := (if_pos ⟨by omega, fun k hk => by omega⟩ : lxO b p e w 0 = nI 0).symm
    obtain ⟨g, rfl⟩ : ∃ g, f = (g + 1) + w.length := ⟨f - w.length - 1, by omega⟩
    have hw7 : f_X3_wordOf_8 ((g + 1) + w.length) 1 (nI p) (nI e) (nI j) (lxO b p e w 0) (nI o) s = f_X3_wordOf_8 (g + 1) 1 (nI p) (nI e) (nI j) (lxO b p e w w.length) (nI (o + w.length)) s := word7 (j := j) hT hp he h1 h3 w.length 0 (g + 1) (by omega)
    rw [e0, hw7, f_X3_wordOf_8, len0, zbd_some, if_neg (show ¬ nI 90 ≤ nI (o + w.length) from nI_ge (by omega) (by omega)), char_ok (by decide) (show o + w.length < 90 by omega), zbd_some, h2, if_neg (fun z => z rfl)]
    have hsub : nI e - nI p = nI (e - p) := pk_sub hp
    rw [hsub]
    unfold lxI
    by_cases ht : lxT b p e = w
    · obtain ⟨t1, t2⟩ := (lxT_eq hp).mp ht
      have eo : lxO b p e w w.length = nI w.length := if_pos ⟨by omega, t2⟩
      rw [if_pos ht, eo, show e - p = w.length by omega, if_neg (fun z => z rfl), nI_add]
    · rw [if_neg ht]
      have hne : ¬ lxO b p e w w.length = nI (e - p) := fun z => ht ((lxT_eq hp).mpr (by
        unfold lxO at z
        by_cases hg : lxG b p e w w.length
        · rw [if_pos hg] at z
          have hl : w.length = e - p := Classical.byContradiction fun q => ne_of_nI q (by have := hg.1; omega) (by omega) z
          exact ⟨by have := hg.1; omega, hg.2⟩
        · rw [if_neg hg] at z
          exact absurd z.symm (ne_m1 (by omega))))
      rw [if_pos hne, zb_eq, f_X3_wordOf_90, zb_eq, nI_1, nI_1, show 1200 + j + 1 = 1200 + (j + 1) by omega]
      exact ih (o + w.length + 1) (j + 1) g h4 (by omega) (by omega) (by omega)
theorem wordof7 (hT : T7 s b L) (hp : p ≤ e) (he : e ≤ L) : f_X3_wordOf 1 (nI p) (nI e) s = some (nI (lxI (lxT b p e) lxV 1200 1002), s) := words7 hT hp he lxV 0 0 zFU spell0 (by decide) (by decide) (by decide)
/-- the reference's search -/
theorem skip8 {w : List Nat} {o j : Nat} {kb : Int32 → Int32 → zS → Option (Int32 × zS)} (hw : ∀ i, i < w.length → lxc 2 (o + i) = w.getD i 0 ∧ w.getD i 0 ≠ 32 ∧ w.getD i 0 < 128) (h32 : lxc 2 (o + w.length) = 32) (ho : o + w.length < 91) : ∀ (k i f : Nat), i + k = w.length → k < f → f_X8_keyAt_97 kb f (nI j) (nI (o + i)) s = kb (nI (j + 1)) (nI (o + w.length + 1)) s := by
  intro k
  induction k with
  | zero =>
    intro i f hi hf
    obtain ⟨f, rfl⟩ : ∃ r, f = r + 1 := ⟨f - 1, by omega⟩
    have : i = w.length := by omega
    subst this
    rw [f_X8_keyAt_97, char_ok (by decide) (show o + w.length < 91 by omega), zbd_some, h32, if_pos rfl, zb_eq, zb_eq, nI_1, nI_1]
  | succ k ih =>
    intro i f hi hf
    obtain ⟨f, rfl⟩ : ∃ r, f = r + 1 := ⟨f - 1, by omega⟩
    obtain ⟨h1, h2, h3⟩ := hw i (by omega)
    rw [f_X8_keyAt_97, char_ok (by decide) (show o + i < 91 by omega), zbd_some, h1, if_neg (ne_of_nI h2 (by omega) (by omega)), zb_eq, nI_1, show o + i + 1 = o + (i + 1) by omega]
    exact ih (i + 1) f (by omega) (by omega)
theorem word8 (hT : T8 s b L) (hp : p ≤ e) (he : e ≤ L) (h6 : s.1 76 6 = nI p) (h7 : s.1 76 7 = nI e) {w : List Nat} {o j : Nat} {kb : Int32 → Int32 → zS → Option (Int32 × zS)} (hw : ∀ i, i < w.length → lxc 2 (o + i) = w.getD i 0 ∧ w.getD i 0 ≠ 32 ∧ w.getD i 0 < 128) (h32 : lxc 2 (o + w.length) = 32) (ho : o + w.length < 91) : ∀ (k i f : Nat), i + k = w.length → k < f → lxG b p e w i → f_X8_keyAt_15 kb f (nI j) (nI o) (nI i) s = if lxT b p e = w then some (nI j, s) else kb (nI (j + 1)) (nI (o + w.length + 1)) s := by
  have hL := hT.1
  have sk := skip8 (s := s) (j := j) (kb := kb) hw h32 ho w.length 0 zFU (by omega) (show w.length < 5000 by omega)
  rw [Nat.add_zero] at sk
  intro k
  induction k with
  | zero =>
    intro i f hi hf hg
    obtain ⟨f, rfl⟩ : ∃ r, f = r + 1 := ⟨f - 1, by omega⟩
    have : i = w.length := by omega
    subst this
    have hle := hg.1
    rw [f_X8_keyAt_15, nI_add, char_ok (by decide) (show o + w.length < 91 by omega), zbd_some, h32, if_pos rfl, f_X8_keyAt_69, nI_add, char_ok (by decide) (show o + w.length < 91 by omega), zbd_some, h32, if_neg (fun z => z rfl), h6, h7, nI_add]
    by_cases ht : p + w.length = e
    · rw [if_neg (fun z => z (by rw [ht])), if_pos ((lxT_eq hp).mpr ⟨ht, hg.2⟩)]
    · rw [if_pos (ne_of_nI ht (by omega) (by omega)), if_neg (fun z => ht ((lxT_eq hp).mp z).1), sk]
  | succ k ih =>
    intro i f hi hf hg
    obtain ⟨f, rfl⟩ : ∃ r, f = r + 1 := ⟨f - 1, by omega⟩
    obtain ⟨h1, h2, h3⟩ := hw i (by omega)
    have hle := hg.1
    have n32 : ¬ nI (lxc 2 (o + i)) = nI 32 := by rw [h1]; exact ne_of_nI h2 (by omega) (by omega)
    have c69 : f_X8_keyAt_69 kb (nI j) (nI o) (nI i) s = kb (nI (j + 1)) (nI (o + w.length + 1)) s := by
      rw [f_X8_keyAt_69, nI_add, char_ok (by decide) (show o + i < 91 by omega), zbd_some, if_pos n32, sk]
    rw [f_X8_keyAt_15, nI_add, char_ok (by decide) (show o + i < 91 by omega), zbd_some, if_neg n32, h6, h7, nI_add]
    by_cases h5 : e ≤ p + i
    · rw [if_pos (nI_le h5 (by omega)), c69, if_neg (fun z => by have := ((lxT_eq hp).mp z).1; omega)]
    · obtain ⟨b1, b2⟩ := hT.2.2 (p + i) (by omega)
      rw [if_neg (nI_ge (by omega) (by omega)), rd_79 s (p + i) rfl (by omega), Option.bind_some, b2, char_ok (by decide) (show o + i < 91 by omega), zbd_some, h1]
      by_cases h8 : b (p + i) = w.getD i 0
      · rw [if_neg (fun z => z (by rw [h8])), zb_eq, nI_1]
        refine ih (i + 1) f (by omega) (by omega) ⟨by omega, fun q hq => ?_⟩
        by_cases e1 : q = i
        · rw [e1]; exact h8
        · exact hg.2 q (by omega)
      · rw [if_pos (ne_of_nI h8 (by omega) (by omega)), c69, if_neg (fun z => h8 (((lxT_eq hp).mp z).2 i (by omega)))]
theorem words8 (hT : T8 s b L) (hp : p ≤ e) (he : e ≤ L) (h6 : s.1 76 6 = nI p) (h7 : s.1 76 7 = nI e) : ∀ (ws : List (List Nat)) (o j f : Nat), lxP 2 91 ws o → o ≤ 91 → ws.length < f → j + ws.length < 1000 → f_X8_keyAt_4 f (nI j) (nI o) s = some (nI (lxI (lxT b p e) ws j 22), s) := by
  intro ws
  induction ws with
  | nil =>
    intro o j f h ho hf _
    obtain ⟨f, rfl⟩ : ∃ r, f = r + 1 := ⟨f - 1, by omega⟩
    have h91 : o = 91 := h
    subst h91
    rw [f_X8_keyAt_4, len2, zbd_some, if_pos (show nI 91 ≤ nI 91 from nI_le (Nat.le_refl _) (by decide))]
    rfl
  | cons w ws ih =>
    intro o j f h ho hf hj
    obtain ⟨f, rfl⟩ : ∃ r, f = r + 1 := ⟨f - 1, by omega⟩
    obtain ⟨h1, h2, h3, h4⟩ := h
    simp only [List.length_cons] at hj hf
    have hw8 := word8 (j := j) (kb := f_X8_keyAt_4 f) hT hp he h6 h7 h1 h2 h3 w.length 0 zFU (by omega) (show w.length < 5000 by omega) ⟨by omega, fun k hk => by omega⟩
    rw [f_X8_keyAt_4, len2, zbd_some, if_neg (show ¬ nI 91 ≤ nI o from nI_ge (by omega) (by omega)), show f_X8_keyAt_15 (f_X8_keyAt_4 f) zFU (nI j) (nI o) 0 s = _ from hw8]
    unfold lxI
    by_cases ht : lxT b p e = w
    · rw [if_pos ht, if_pos ht]
    · rw [if_neg ht, if_neg ht]
      exact ih (o + w.length + 1) (j + 1) f h4 (by omega) (by omega) (by omega)
theorem key8 (hT : T8 s b L) (hp : p ≤ e) (he : e ≤ L) (h6 : s.1 76 6 = nI p) (h7 : s.1 76 7 = nI e) : f_X8_keyAt s = some (nI (lxI (lxT b p e) lxW 0 22), s) := words8 hT hp he h6 h7 lxW 1 0 zFU spell2 (by decide) (by decide) (by decide)
end WORDS
