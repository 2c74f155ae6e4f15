/-- letters, digits, blanks -/
def lxL (b : Nat) : Bool := decide (97 ≤ b ∧ b ≤ 122)
def lxD (b : Nat) : Bool := decide (48 ≤ b ∧ b ≤ 57)
def lxS (b : Nat) : Bool := decide (b = 10 ∨ b = 32)
/-- where a run of such bytes ends -/
def lxR (P : Nat → Bool) (L : Nat) : Nat → Nat → Nat
  | 0, p => p
  | f + 1, p => if p < L ∧ P p = true then lxR P L f (p + 1) else p
def lxE (P : Nat → Bool) (L p : Nat) : Nat := lxR P L (L - p) p
theorem lxE_s {P : Nat → Bool} {L p : Nat} (h : p < L) (hP : P p = true) : lxE P L p = lxE P L (p + 1) := by
  unfold lxE
  rw [show L - p = (L - (p + 1)) + 1 by omega]
  show (if p < L ∧ P p = true then lxR P L (L - (p + 1)) (p + 1) else p) = _
  rw [if_pos ⟨h, hP⟩]
theorem lxE_n {P : Nat → Bool} {L p : Nat} (h : ¬ (p < L ∧ P p = true)) : lxE P L p = p := by
  unfold lxE
  cases hk : L - p with
  | zero => rfl
  | succ f =>
    show (if p < L ∧ P p = true then lxR P L f (p + 1) else p) = p
    rw [if_neg h]
theorem lxE_b {P : Nat → Bool} {L : Nat} : ∀ k p, L - p ≤ k → p ≤ lxE P L p ∧ (p ≤ L → lxE P L p ≤ L) ∧ ¬ (lxE P L p < L ∧ P (lxE P L p) = true) := by
  intro k
  induction k with
  | zero =>
    intro p hk
    rw [lxE_n (fun z => by omega)]
    exact ⟨Nat.le_refl _, fun h => h, fun z => by omega⟩
  | succ k ih =>
    intro p hk
    by_cases h : p < L ∧ P p = true
    · rw [lxE_s h.1 h.2]
      obtain ⟨h1, h2, h3⟩ := ih (p + 1) (by omega)
      exact ⟨by omega, fun _ => h2 (by omega), h3⟩
    · rw [lxE_n h]
      exact ⟨Nat.le_refl _, fun h => h, h⟩
/-- the bytes from p to e -/
def lxT (b : Nat → Nat) (p e : Nat) : List Nat := (List.range (e - p)).map (fun i => b (p + i))
/-- a word's place among words -/
def lxI (t : List Nat) : List (List Nat) → Nat → Nat → Nat
  | [], _, d => d
  | w :: l, i, d => if t = w then i else lxI t l (i + 1) d
theorem lxT_eq {b : Nat → Nat} {p e : Nat} {w : List Nat} (hpe : p ≤ e) : lxT b p e = w ↔ (p + w.length = e ∧ ∀ i, i < w.length → b (p + i) = w.getD i 0) := by
  unfold lxT
  constructor
  · intro h
    subst h
    refine ⟨by simp; omega, fun i hi => ?_⟩
    simp at hi
    simp [List.getD_eq_getElem?_getD, hi]
  · rintro ⟨h1, h2⟩
    apply List.ext_getElem
    · simp; omega
    · intro i h3 h4
      simp only [List.getElem_map, List.getElem_range]
      rw [h2 i h4, List.getD_eq_getElem?_getD, List.getElem?_eq_getElem h4]
      rfl
/-- words of the class in its order, and of the reference in its own -/
def lxV : List (List Nat) := [[115, 111, 99, 105, 101, 116, 121], [112, 101, 114, 115, 111, 110], [101, 110, 103, 97, 103, 101, 100], [102, 105, 116, 115], [108, 105, 107, 101, 115], [115, 104, 121], [111, 100, 100, 115], [111, 114], [97, 110, 100], [110, 111, 116], [99, 114, 111, 115, 115], [105, 110, 107], [109, 97, 110, 121], [119, 104, 111], [119, 104, 111, 109], [109, 97, 114, 107], [116, 104, 101, 105, 114, 115]]
def lxW : List (List Nat) := [[115, 111, 99, 105, 101, 116, 121], [112, 101, 114, 115, 111, 110], [101, 110, 103, 97, 103, 101, 100], [109, 97, 114, 107], [115, 104, 121], [111, 100, 100, 115], [102, 105, 116, 115], [108, 105, 107, 101, 115], [99, 114, 111, 115, 115], [105, 110, 107], [109, 97, 110, 121], [119, 104, 111], [119, 104, 111, 109], [116, 104, 101, 105, 114, 115], [97, 110, 100], [111, 114], [110, 111, 116]]
/-- the class's code of a kind of the reference -/
def lxK (k v : Nat) : Nat := if k = 23 then v else if k = 24 then 1000 else if k = 25 then 1001 else if k < 17 then 1200 + [0, 1, 2, 15, 5, 6, 3, 4, 10, 11, 12, 13, 14, 16, 8, 7, 9].getD k 0 else if 30 ≤ k then 1070 + k else 1002
theorem lxI_no {t : List Nat} {d : Nat} : ∀ (l : List (List Nat)) (i : Nat), (∀ w ∈ l, t ≠ w) → lxI t l i d = d := by
  intro l
  induction l with
  | nil => intro i _; rfl
  | cons w l ih =>
    intro i h
    unfold lxI
    rw [if_neg (h w List.mem_cons_self)]
    exact ih (i + 1) (fun x hx => h x (List.mem_cons_of_mem _ hx))
theorem lxWV : ∀ w ∈ lxW, lxK (lxI w lxW 0 22) 0 = lxI w lxV 1200 1002 := by decide +kernel
theorem lxVW : ∀ w ∈ lxV, w ∈ lxW := by decide +kernel
theorem lxK_w (t : List Nat) : lxK (lxI t lxW 0 22) 0 = lxI t lxV 1200 1002 := by
  by_cases h : t ∈ lxW
  · exact lxWV t h
  · rw [lxI_no (t := t) lxW 0 (fun w hw e => h (by rw [e]; exact hw)), lxI_no (t := t) lxV 1200 (fun w hw e => h (by rw [e]; exact lxVW w hw))]
    rfl
theorem lxI_lt {t : List Nat} {d : Nat} : ∀ (l : List (List Nat)) (i : Nat), lxI t l i d = d ∨ (i ≤ lxI t l i d ∧ lxI t l i d < i + l.length) := by
  intro l
  induction l with
  | nil => intro i; exact Or.inl rfl
  | cons w l ih =>
    intro i
    unfold lxI
    by_cases h : t = w
    · rw [if_pos h]; exact Or.inr ⟨Nat.le_refl _, by simp⟩
    · rw [if_neg h]
      rcases ih (i + 1) with e | ⟨e1, e2⟩
      · exact Or.inl e
      · exact Or.inr ⟨by omega, by simp; omega⟩
/-- chars of the texts -/
def lxc (k j : Nat) : Nat := ((zt_byt.getD k []).getD j 0).toNatClampNeg
theorem lxc_ok : ∀ k, k < 3 → ∀ j, j < zt_len.getD k 0 → (zt_byt.getD k []).getD j 0 = nI (lxc k j) ∧ lxc k j < 128 ∧ (((nI (lxc k j) &&& (nI 255)).toUInt32 % 65536).toInt32) = nI (lxc k j) ∧ ((nI (lxc k j)).toUInt32 % 65536).toInt32 = nI (lxc k j) := by decide +kernel
theorem zr_y_ok {k j : Nat} (hk : k < 3) (hj : j < zt_len.getD k 0) : zr_y k (nI j) = some (nI (lxc k j)) := by
  have h100 : zt_len.getD k 0 ≤ 100 := (by decide : ∀ k, k < 3 → zt_len.getD k 0 ≤ 100) k hk
  unfold zr_y
  rw [if_pos ⟨hk, fun z => by
    rcases z with z | z
    · exact nI_pos (by omega) z
    · rw [nI_clamp (by omega)] at z; omega⟩, nI_clamp (by omega), (lxc_ok k hk j hj).1]
theorem lat1 {k : Nat} (hk : k < 3) (s : zS) : f_J0_isLatin1_aae02 k s = some (1, s) := by
  unfold f_J0_isLatin1_aae02 f_J0_isLatin1_aae02_18
  rw [if_neg (by decide), if_pos hk, if_neg (fun z => z rfl), if_pos (Or.inr rfl)]
theorem len_ok {k : Nat} (hk : k < 3) (s : zS) : f_J0_length_8abf5 k s = some (nI (zt_len.getD k 0), s) := by
  unfold f_J0_length_8abf5 f_J0_coder_7d493 f_J0_coder_7d493_14
  rw [if_pos hk, if_pos hk, if_pos hk, if_neg (by decide), if_pos hk, if_pos (by decide), zbd_some]
  have h : ∀ k, k < 3 → zo_shr (nI (zt_len.getD k 0)) 0 = nI (zt_len.getD k 0) := by decide +kernel
  rw [h k hk]
theorem char_ok {k j : Nat} (hk : k < 3) (hj : j < zt_len.getD k 0) (s : zS) : f_J0_charAt_5068e k (nI j) s = some (nI (lxc k j), s) := by
  have h100 : zt_len.getD k 0 ≤ 100 := (by decide : ∀ k, k < 3 → zt_len.getD k 0 ≤ 100) k hk
  obtain ⟨-, -, h3, h4⟩ := lxc_ok k hk j hj
  unfold f_J0_charAt_5068e f_J1_charAt_3b067 f_J0_checkIndex_df160 f_J3_checkIndex_8e157
  rw [if_pos hk, lat1 hk, zbd_some, if_neg (by decide), if_pos hk, if_pos hk, if_neg (nI_pos (by omega)), if_pos (nI_lt hj (by omega)), zbd_some, zbd_some, zr_y_ok hk hj, Option.bind_some, h3, if_pos h4, zbd_some, if_pos h4]
