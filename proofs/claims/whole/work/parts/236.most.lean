/-- twos at once: what both reckon is the greatest -/
def cl (m q : Nat) : Nat := m &&& (127 - 2 ^ q)
theorem cl_comm (m a b : Nat) : cl (cl m a) b = cl (cl m b) a := by
  unfold cl
  rw [Nat.and_assoc, Nat.and_assoc, Nat.and_comm (127 - 2 ^ a)]
theorem cl_bit {m q i : Nat} (hq : q < 7) (hi : i < 7) : (cl m q).testBit i = (m.testBit i && decide (i ≠ q)) := clr_bit hq hi
theorem cl_lt {m v : Nat} (hv : v < 7) (h : m.testBit v = true) : cl m v < m := by
  have h1 : cl m v ≤ m := Nat.and_le_left
  have h2 : cl m v ≠ m := fun e => by
    have := cl_bit (m := m) hv hv
    rw [e, h] at this
    simp at this
  omega
def zmat (mt : Nat → Nat → Bool) : List (Nat × Nat) → Nat → Prop
  | [], _ => True
  | x :: l, m => (x.1 < 7 ∧ x.2 < 7 ∧ x.1 ≠ x.2) ∧ (m.testBit x.1 = true ∧ m.testBit x.2 = true ∧ mt x.1 x.2 = true) ∧ zmat mt l (cl (cl m x.1) x.2)
def RecAt (mt : Nat → Nat → Bool) (T : Nat → Nat) (m : Nat) : Prop := ∃ v, v < 7 ∧ m.testBit v = true ∧ T (cl m v) ≤ T m ∧ (∀ q, q < 7 → (cl m v).testBit q = true → mt v q = true → 1 + T (cl (cl m v) q) ≤ T m) ∧ (T m = T (cl m v) ∨ ∃ q, q < 7 ∧ (cl m v).testBit q = true ∧ mt v q = true ∧ T m = 1 + T (cl (cl m v) q))
theorem zmat_v {mt : Nat → Nat → Bool} (sym : ∀ a b, mt a b = mt b a) {v : Nat} (hv : v < 7) : ∀ (l : List (Nat × Nat)) (m : Nat), zmat mt l m → m.testBit v = true → zmat mt l (cl m v) ∨ ∃ q l', zmat mt ((v, q) :: l') m ∧ l'.length + 1 = l.length := by
  intro l
  induction l with
  | nil => intro m _ _; exact Or.inl trivial
  | cons x l ih =>
    intro m h hm
    obtain ⟨⟨h1, h2, h3⟩, ⟨h4, h5, h6⟩, h7⟩ := h
    by_cases e1 : v = x.1
    · subst e1
      exact Or.inr ⟨x.2, l, ⟨⟨h1, h2, h3⟩, ⟨h4, h5, h6⟩, h7⟩, rfl⟩
    by_cases e2 : v = x.2
    · subst e2
      exact Or.inr ⟨x.1, l, ⟨⟨h2, h1, Ne.symm h3⟩, ⟨h5, h4, by rw [sym]; exact h6⟩, by rw [cl_comm]; exact h7⟩, rfl⟩
    have hb : (cl (cl m x.1) x.2).testBit v = true := by
      rw [cl_bit h2 hv, cl_bit h1 hv, hm]
      simp [e1, e2]
    rcases ih _ h7 hb with g | ⟨q, l', g, gl⟩
    · refine Or.inl ⟨⟨h1, h2, h3⟩, ⟨?_, ?_, h6⟩, ?_⟩
      · rw [cl_bit hv h1, h4]; simp [Ne.symm e1]
      · rw [cl_bit hv h2, h5]; simp [Ne.symm e2]
      · rw [cl_comm m v x.1, cl_comm (cl m x.1) v x.2]; exact g
    · obtain ⟨⟨g1, g2, g3⟩, ⟨g4, g5, g6⟩, g7⟩ := g
      have g5' := g5
      simp only at g1 g2 g3 g4 g5 g6 g7
      rw [cl_bit h2 g2, cl_bit h1 g2] at g5
      simp only [Bool.and_eq_true, decide_eq_true_eq] at g5
      refine Or.inr ⟨q, x :: l', ⟨⟨g1, g2, g3⟩, ⟨hm, g5.1.1, g6⟩, ⟨h1, h2, h3⟩, ⟨?_, ?_, h6⟩, ?_⟩, by simp [← gl]⟩
      · show (cl (cl m v) q).testBit x.1 = true
        rw [cl_bit g2 h1, cl_bit hv h1, h4]
        simp [Ne.symm e1, Ne.symm g5.1.2]
      · show (cl (cl m v) q).testBit x.2 = true
        rw [cl_bit g2 h2, cl_bit hv h2, h5]
        simp [Ne.symm e2, Ne.symm g5.2]
      · show zmat mt l' (cl (cl (cl (cl m v) q) x.1) x.2)
        rw [cl_comm (cl m v) q x.1, cl_comm m v x.1, cl_comm (cl (cl m x.1) v) q x.2, cl_comm (cl m x.1) v x.2]
        exact g7
theorem rec_ok {mt : Nat → Nat → Bool} (sym : ∀ a b, mt a b = mt b a) {T : Nat → Nat} {N : Nat} (h0 : T 0 = 0) (hr : ∀ m, 0 < m → m < N → RecAt mt T m) : ∀ k m, m ≤ k → m < N → m < 128 → (∃ l, zmat mt l m ∧ l.length = T m) ∧ ∀ l, zmat mt l m → l.length ≤ T m := by
  intro k
  induction k with
  | zero =>
    intro m hm _ _
    have e : m = 0 := by omega
    subst e
    refine ⟨⟨[], trivial, h0.symm⟩, fun l hl => ?_⟩
    cases l with
    | nil => exact Nat.zero_le _
    | cons x l => have := hl.2.1.1; rw [Nat.zero_testBit] at this; cases this
  | succ k ih =>
    intro m hm hN h128
    by_cases e : m = 0
    · subst e
      refine ⟨⟨[], trivial, h0.symm⟩, fun l hl => ?_⟩
      cases l with
      | nil => exact Nat.zero_le _
      | cons x l => have := hl.2.1.1; rw [Nat.zero_testBit] at this; cases this
    obtain ⟨v, hv, hb, r1, r2, r3⟩ := hr m (by omega) hN
    have hl1 := cl_lt hv hb
    obtain ⟨⟨l1, a1, a2⟩, a3⟩ := ih (cl m v) (by omega) (by omega) (by omega)
    have sub : ∀ (l : List (Nat × Nat)) (m : Nat), zmat mt l (cl m v) → zmat mt l m := by
      intro l
      induction l with
      | nil => intro m _; trivial
      | cons x l ihl =>
        intro m h
        obtain ⟨⟨h1, h2, h3⟩, ⟨h4, h5, h6⟩, h7⟩ := h
        rw [cl_bit hv h1] at h4
        rw [cl_bit hv h2] at h5
        simp only [Bool.and_eq_true] at h4 h5
        refine ⟨⟨h1, h2, h3⟩, ⟨h4.1, h5.1, h6⟩, ihl _ ?_⟩
        rw [cl_comm (cl m x.1) x.2 v, cl_comm m x.1 v]
        exact h7
    constructor
    · rcases r3 with r3 | ⟨q, hq, r3, r4, r5⟩
      · exact ⟨l1, sub l1 m a1, a2.trans r3.symm⟩
      · have hl2 := cl_lt hq r3
        obtain ⟨⟨l2, b1, b2⟩, -⟩ := ih (cl (cl m v) q) (by omega) (by omega) (by omega)
        have r3' := r3
        rw [cl_bit hv hq] at r3'
        simp only [Bool.and_eq_true, decide_eq_true_eq] at r3'
        exact ⟨(v, q) :: l2, ⟨⟨hv, hq, Ne.symm r3'.2⟩, ⟨hb, r3'.1, r4⟩, b1⟩, by simp [b2, r5, Nat.add_comm]⟩
    · intro l hl
      rcases zmat_v sym hv l m hl hb with g | ⟨q, l', g, gl⟩
      · exact Nat.le_trans (a3 l g) r1
      · obtain ⟨⟨g1, g2, g3⟩, ⟨g4, g5, g6⟩, g7⟩ := g
        simp only at g1 g2 g3 g4 g5 g6 g7
        have hbq : (cl m v).testBit q = true := by rw [cl_bit hv g2, g5]; simp [Ne.symm g3]
        have hl2 := cl_lt g2 hbq
        have := (ih (cl (cl m v) q) (by omega) (by omega) (by omega)).2 l' g7
        have := r2 q g2 hbq g6
        omega
/-- the greatest of some, along a loop -/
def zmx (P : Nat → Bool) (f : Nat → Nat) (q c : Nat) : Nat := if P q && decide (c < f q) then f q else c
theorem zmx_ok (P : Nat → Bool) (f : Nat → Nat) : ∀ k i c, c ≤ zfd (zmx P f) k i c ∧ (∀ q, i ≤ q → q < i + k → P q = true → f q ≤ zfd (zmx P f) k i c) ∧ (zfd (zmx P f) k i c = c ∨ ∃ q, i ≤ q ∧ q < i + k ∧ P q = true ∧ zfd (zmx P f) k i c = f q) := by
  intro k
  induction k with
  | zero => intro i c; exact ⟨Nat.le_refl _, fun q h1 h2 => by omega, Or.inl rfl⟩
  | succ k ih =>
    intro i c
    obtain ⟨h1, h2, h3⟩ := ih (i + 1) (zmx P f i c)
    show c ≤ zfd (zmx P f) k (i + 1) (zmx P f i c) ∧ _
    have hc : c ≤ zmx P f i c ∧ (P i = true → f i ≤ zmx P f i c) ∧ (zmx P f i c = c ∨ P i = true ∧ zmx P f i c = f i) := by
      unfold zmx
      by_cases hP : P i = true
      · by_cases hl : c < f i
        · rw [if_pos (by simp [hP, hl])]; exact ⟨by omega, fun _ => Nat.le_refl _, Or.inr ⟨hP, rfl⟩⟩
        · rw [if_neg (by simp [hl])]; exact ⟨Nat.le_refl _, fun _ => by omega, Or.inl rfl⟩
      · rw [if_neg (by simp [hP])]; exact ⟨Nat.le_refl _, fun z => absurd z hP, Or.inl rfl⟩
    refine ⟨Nat.le_trans hc.1 h1, fun q q1 q2 hq => ?_, ?_⟩
    · by_cases e : q = i
      · subst e; exact Nat.le_trans (hc.2.1 hq) h1
      · exact h2 q (by omega) (by omega) hq
    · rcases h3 with h3 | ⟨q, q1, q2, q3, q4⟩
      · rcases hc.2.2 with e | ⟨e1, e2⟩
        · exact Or.inl (h3.trans e)
        · exact Or.inr ⟨i, Nat.le_refl _, by omega, e1, h3.trans e2⟩
      · exact Or.inr ⟨q, by omega, by omega, q3, q4⟩
theorem zmx_b (P : Nat → Bool) (f : Nat → Nat) {X : Nat} (hf : ∀ q, f q ≤ X) : ∀ k i c, c ≤ X → zfd (zmx P f) k i c ≤ X := by
  intro k i c hc
  rcases (zmx_ok P f k i c).2.2 with e | ⟨q, -, -, -, e⟩
  · rw [e]; exact hc
  · rw [e]; exact hf q
section MOST
variable {n : Nat} {G M H D A B : Nat → Nat} {c0 c1 : List Nat} {s : zS}
/-- a table of the greatest, of sets below N -/
def TAB (mt : Nat → Nat → Bool) (r : Nat → Int32) (N : Nat) (T : Nat → Nat) : Prop := T 0 = 0 ∧ (∀ j, T j ≤ 127) ∧ (∀ j, j < N → r j = nI (T j)) ∧ ∀ m, 0 < m → m < N → RecAt mt T m
theorem RecAt.up {mt : Nat → Nat → Bool} {T : Nat → Nat} {m N x : Nat} (h : RecAt mt T m) (hm : m < N) (h128 : N ≤ 128) : RecAt mt (fun j => if j = N then x else T j) m := by
  obtain ⟨v, hv, hb, r1, r2, r3⟩ := h
  have l1 := cl_lt hv hb
  have e1 : m ≠ N := by omega
  have e2 : cl m v ≠ N := by omega
  have e3 : ∀ q, q < 7 → (cl m v).testBit q = true → cl (cl m v) q ≠ N := fun q hq hqb => by have := cl_lt hq hqb; omega
  refine ⟨v, hv, hb, by simp only [e1, e2, if_false]; exact r1, fun q hq hqb hm => ?_, ?_⟩
  · simp only [e1, e3 q hq hqb, if_false]; exact r2 q hq hqb hm
  · rcases r3 with r3 | ⟨q, hq, r3, r4, r5⟩
    · left; simp only [e1, e2, if_false]; exact r3
    · right; exact ⟨q, hq, r3, r4, by simp only [e1, e3 q hq r3, if_false]; exact r5⟩
def zlast (m : Nat) : Nat → Nat
  | 0 => 0
  | i + 1 => if m.testBit i then i else zlast m i
theorem zlast_ok {m : Nat} : ∀ i, (∃ j, j < i ∧ m.testBit j = true) → zlast m i < i ∧ m.testBit (zlast m i) = true ∧ ∀ j, zlast m i < j → j < i → m.testBit j = false := by
  intro i
  induction i with
  | zero => rintro ⟨j, hj, -⟩; omega
  | succ i ih =>
    rintro ⟨j, hj, hb⟩
    rw [zlast]
    by_cases h : m.testBit i = true
    · rw [if_pos h]
      exact ⟨by omega, h, fun j h1 h2 => by omega⟩
    · rw [if_neg h]
      have hji : j ≠ i := fun e => by subst e; exact h hb
      obtain ⟨g1, g2, g3⟩ := ih ⟨j, by omega, hb⟩
      refine ⟨by omega, g2, fun k h1 h2 => ?_⟩
      by_cases e : k = i
      · subst e; simpa using h
      · exact g3 k h1 (by omega)
theorem bit_of {m n : Nat} (h0 : 0 < m) (hm : m < 2 ^ n) : ∃ j, j < n ∧ m.testBit j = true := by
  refine Decidable.byContradiction (fun hc => ?_)
  have : m = 0 := Nat.eq_of_testBit_eq (fun i => by
    rw [Nat.zero_testBit]
    by_cases hi : i < n
    · cases hb : m.testBit i with
      | false => rfl
      | true => exact absurd ⟨i, hi, hb⟩ hc
    · exact Nat.testBit_lt_two_pow (Nat.lt_of_lt_of_le hm (Nat.pow_le_pow_right (by decide) (by omega))))
  omega
theorem most7 (hK : JK s n G M H c0 c1 A B) : ∃ s' T, f_X0_mostTwos s = some (nI (T (2 ^ n - 1)), s') ∧ TAB (zmt G M c0 c1) (s'.1 67) (2 ^ n) T ∧ JK s' n G M H c0 c1 A B ∧ zk_k CC s s' := by
  have hn := hK.1.1.1.1
  have h128 := pow_128 hn
  have h2p := Nat.two_pow_pos n
  obtain ⟨s1, a1, a2, a3, a4, a5⟩ := learnK hK
  rw [f_X0_mostTwos, a1, zbd_some]
  obtain ⟨q', t, g1, g2, T, g3⟩ := zlp (fun q m t => f_X0_mostTwos_6 q (nI m) t) (2 ^ n) (fun m t => zk_k [67] s1 t ∧ ∃ T, TAB (zmt G M c0 c1) (t.1 67) m T)
    (fun q m t hm h => by
      obtain ⟨h1, T, hT0, hTb, hT1, hT2⟩ := h
      show ∃ a', f_X0_mostTwos_6 (q + 1) (nI m) t = f_X0_mostTwos_6 q (nI (m + 1)) a' ∧ _
      have hZ := a2.1.1.1.keep h1 (by decide)
      have hM := a3.keep h1 (by decide)
      rw [f_X0_mostTwos_6, allK hZ, zbd_some, if_neg (nI_nlt (by omega) (by omega))]
      -- the value of this set
      have val : ∃ X, X ≤ 127 ∧ f_X0_mostTwosOf (nI m) t = some (nI X, t) ∧ (m = 0 → X = 0) ∧ (0 < m → RecAt (zmt G M c0 c1) (fun j => if j = m then X else T j) m) := by
        by_cases e0 : m = 0
        · subst e0
          refine ⟨0, by decide, ?_, fun _ => rfl, fun z => by omega⟩
          rw [f_X0_mostTwosOf, if_neg (fun z => z rfl)]; rfl
        · obtain ⟨l1, l2, l3⟩ := zlast_ok (m := m) n (bit_of (by omega) hm)
          have hc1 := cl_lt (by omega) l2
          have rd : ∀ j, j < m → zr_i t 67 (nI j) = some (nI (T j)) := fun j hj => by rw [rd_67 t j rfl (by omega), hT1 j hj]
          obtain ⟨q1, u, d1, -⟩ := zlp (fun q i (_ : Unit) => f_X0_mostTwosOf_10 q (nI m) (nI (zlast m i)) (nI i) t) n (fun _ _ => True) (fun q i _ hi _ => by
            refine ⟨(), ?_, trivial⟩
            show f_X0_mostTwosOf_10 (q + 1) (nI m) (nI (zlast m i)) (nI i) t = f_X0_mostTwosOf_10 q (nI m) (nI (zlast m (i + 1))) (nI (i + 1)) t
            rw [f_X0_mostTwosOf_10, hZ.2.1, if_neg (nI_ge hi (by omega)), ush_tb (by omega) (by omega), zlast]
            by_cases hb : m.testBit i = true
            · rw [if_pos hb, if_pos hb, if_neg (fun z => z rfl), f_X0_mostTwosOf_35, zb_eq, nI_1]
            · rw [if_neg hb, if_neg hb, if_pos (by decide), f_X0_mostTwosOf_35, zb_eq, nI_1]) n 0 zFU () (by omega) (by show n < 5000; omega) trivial
          have d1' : f_X0_mostTwosOf_10 zFU (nI m) 0 0 t = f_X0_mostTwosOf_10 (q1 + 1) (nI m) (nI (zlast m n)) (nI n) t := d1
          have hb126 : ∀ q, 1 + T (cl (cl m (zlast m n)) q) ≤ 128 := fun q => by have := hTb (cl (cl m (zlast m n)) q); omega
          have K := loop_fold (fun q i c => f_X0_mostTwosOf_61 q (nI (zlast m n)) (nI (cl m (zlast m n))) (nI c) (nI i) t) (zlast m n) (zmx (fun q => (cl m (zlast m n)).testBit q && zmt G M c0 c1 (zlast m n) q) (fun q => 1 + T (cl (cl m (zlast m n)) q))) (fun c => some (nI c, t)) (fun _ c => c ≤ 128) (fun q i c hi hc => by
            have hin : i < n := by omega
            constructor
            · show f_X0_mostTwosOf_61 (q + 1) (nI (zlast m n)) (nI (cl m (zlast m n))) (nI c) (nI i) t = _
              rw [f_X0_mostTwosOf_61, if_neg (nI_ge hi (by omega)), ush_tb (by omega) (by omega), zmx]
              by_cases hb : (cl m (zlast m n)).testBit i = true
              · have hc2 := cl_lt (by omega) hb
                rw [if_pos hb, if_neg (fun z => z rfl), km7 hn hM l1 hin, zbd_some]
                by_cases hmt : zmt G M c0 c1 (zlast m n) i = true
                · have hTc := hTb (cl (cl m (zlast m n)) i)
                  rw [if_pos hmt, if_neg (by decide), clr7 i (by omega) _ (by omega)]
                  show (zr_i t 67 (nI (cl (cl m (zlast m n)) i))).bind _ = _
                  rw [rd _ (by omega), Option.bind_some, show (1 : Int32) + nI (T (cl (cl m (zlast m n)) i)) = nI (1 + T (cl (cl m (zlast m n)) i)) from nI_add 1 _, max7 (by omega) (by omega), zbd_some, f_X0_mostTwosOf_109, zb_eq, nI_1]
                  congr 2
                  simp only [hb, hmt, Bool.true_and]
                  by_cases hl : c < 1 + T (cl (cl m (zlast m n)) i)
                  · simp only [hl, decide_true, if_true]; omega
                  · simp only [hl, decide_false]; simp; omega
                · rw [if_neg hmt, if_pos rfl, f_X0_mostTwosOf_109, zb_eq, nI_1]
                  simp [hmt]
              · rw [if_neg hb, if_pos (by decide), f_X0_mostTwosOf_109, zb_eq, nI_1]
                simp [hb]
            · unfold zmx
              split
              · exact hb126 i
              · exact hc) (fun q c _ => by
            show f_X0_mostTwosOf_61 (q + 1) (nI (zlast m n)) (nI (cl m (zlast m n))) (nI c) (nI (zlast m n)) t = _
            rw [f_X0_mostTwosOf_61, if_pos (nI_le (Nat.le_refl _) (by omega))]) (zlast m n) 0 zFU (T (cl m (zlast m n))) (by omega) (by show zlast m n < 5000; omega) (by have := hTb (cl m (zlast m n)); omega)
          have ok := zmx_ok (fun q => (cl m (zlast m n)).testBit q && zmt G M c0 c1 (zlast m n) q) (fun q => 1 + T (cl (cl m (zlast m n)) q)) (zlast m n) 0 (T (cl m (zlast m n)))
          generalize hX : zfd (zmx (fun q => (cl m (zlast m n)).testBit q && zmt G M c0 c1 (zlast m n) q) (fun q => 1 + T (cl (cl m (zlast m n)) q))) (zlast m n) 0 (T (cl m (zlast m n))) = X at K ok
          have hrec : RecAt (zmt G M c0 c1) (fun j => if j = m then X else T j) m := by
            have e2 : cl m (zlast m n) ≠ m := by omega
            refine ⟨zlast m n, by omega, l2, by simp only [e2, if_false, if_true]; exact ok.1, fun q hq hqb hmt => ?_, ?_⟩
            · have hc2 := cl_lt hq hqb
              have e3 : cl (cl m (zlast m n)) q ≠ m := by omega
              simp only [e3, if_false, if_true]
              refine ok.2.1 q (Nat.zero_le _) ?_ (by simp [hqb, hmt])
              rw [cl_bit (by omega) hq] at hqb
              simp only [Bool.and_eq_true, decide_eq_true_eq] at hqb
              rcases Nat.lt_trichotomy q (zlast m n) with h | h | h
              · omega
              · exact absurd h hqb.2
              · by_cases hqn : q < n
                · rw [l3 q h hqn] at hqb; cases hqb.1
                · rw [Nat.testBit_lt_two_pow (Nat.lt_of_lt_of_le hm (Nat.pow_le_pow_right (by decide) (by omega)))] at hqb
                  cases hqb.1
            · rcases ok.2.2 with e | ⟨q, -, q2, q3, q4⟩
              · left; simp only [e2, if_false, if_true]; exact e
              · simp only [Bool.and_eq_true] at q3
                have hc2 := cl_lt (show q < 7 by omega) q3.1
                have e3 : cl (cl m (zlast m n)) q ≠ m := by omega
                right
                exact ⟨q, by omega, q3.1, q3.2, by simp only [e3, if_false, if_true]; exact q4⟩
          -- small
          have hsmall : X ≤ 127 := by
            rcases ok.2.2 with e | ⟨q, -, q2, q3, q4⟩
            · rw [e]; exact hTb _
            · simp only [Bool.and_eq_true] at q3
              have hc2 := cl_lt (show q < 7 by omega) q3.1
              have hle := (rec_ok (zmt_sym G M c0 c1) (N := m) hT0 hT2 (cl (cl m (zlast m n)) q) _ (Nat.le_refl _) (by omega) (by omega)).1
              obtain ⟨l, hl1, hl2⟩ := hle
              have : ∀ (l : List (Nat × Nat)) (m : Nat), zmat (zmt G M c0 c1) l m → l.length ≤ m := by
                intro l
                induction l with
                | nil => intro m _; exact Nat.zero_le _
                | cons x l ihl =>
                  intro m hz
                  obtain ⟨⟨z1, z2, z3⟩, ⟨z4, z5, z6⟩, z7⟩ := hz
                  have y1 := ihl _ z7
                  have y2 := cl_lt z1 z4
                  have y3 : cl (cl m x.1) x.2 ≤ cl m x.1 := Nat.and_le_left
                  simp only [List.length_cons]
                  omega
              have := this l _ hl1
              omega
          refine ⟨X, hsmall, ?_, fun z => absurd z e0, fun _ => hrec⟩
          rw [f_X0_mostTwosOf, if_pos (nI_ne0 (by omega) (by omega)), d1', f_X0_mostTwosOf_10, hZ.2.1, if_pos (nI_le (Nat.le_refl _) (by omega)), zb_eq, clr7 _ (by omega) _ (by omega)]
          show (zr_i t 67 (nI (cl m (zlast m n)))).bind _ = _
          rw [rd _ hc1, Option.bind_some]
          exact K.1
      obtain ⟨X, x1, x2, x3, x4⟩ := val
      rw [x2, zbd_some, wr_67 t m rfl (by omega), Option.bind_some, zb_eq, nI_1]
      refine ⟨_, rfl, h1.i (by simp), fun j => if j = m then X else T j, ?_, fun j => ?_, fun j hj => ?_, fun j h0 hj => ?_⟩
      · show (if 0 = m then X else T 0) = 0
        split
        · rename_i e; exact x3 e.symm
        · exact hT0
      · show (if j = m then X else T j) ≤ 127
        split
        · exact x1
        · exact hTb j
      · by_cases e : j = m
        · subst e; rw [zs_i_v]; simp
        · rw [zs_i_o _ _ _ _ _ e, hT1 j (by omega)]; simp [e]
      · by_cases e : j = m
        · subst e; exact x4 h0
        · exact (hT2 j h0 (by omega)).up (by omega) (by omega)) (2 ^ n) 0 zFU s1 (by omega) (by show 2 ^ n < 5000; omega) ⟨zk_k.rf, fun _ => 0, rfl, fun _ => Nat.zero_le _, fun j hj => by omega, fun m h1 h2 => by omega⟩
  have g1' : f_X0_mostTwos_6 zFU 0 s1 = f_X0_mostTwos_6 (q' + 1) (nI (2 ^ n)) t := g1
  have hZ := a2.1.1.1.keep g2 (by decide)
  rw [g1', f_X0_mostTwos_6, allK hZ, zbd_some, if_pos (nI_lt (by omega) (by omega)), allK hZ, zbd_some, rd_67 t (2 ^ n - 1) rfl (by omega), Option.bind_some, g3.2.2.1 _ (by omega)]
  exact ⟨t, T, rfl, g3, a2.keep g2 (by decide), (a4.mono (by decide)).tr (g2.mono (by decide))⟩
end MOST
