/-- what one way of laying comes to -/
def ztot : List Nat → List (Nat × Nat) → Nat → List Nat → Nat
  | b :: rest, pre, cross, t :: ss => ztot rest (pre ++ [(b, t)]) (cross + zadd pre b t) ss
  | _, _, cross, _ => cross
def zok : Nat → List Nat → Prop
  | 0, [] => True
  | n + 1, t :: ss => t < 9 ∧ zok n ss
  | _, _ => False
theorem ztot_ge : ∀ (rest : List Nat) (pre : List (Nat × Nat)) (cross : Nat) (ss : List Nat), cross ≤ ztot rest pre cross ss := by
  intro rest
  induction rest with
  | nil => intro pre cross ss; exact Nat.le_refl _
  | cons b rest ih =>
    intro pre cross ss
    cases ss with
    | nil => exact Nat.le_refl _
    | cons t ss => exact Nat.le_trans (Nat.le_add_right _ _) (ih (pre ++ [(b, t)]) (cross + zadd pre b t) ss)
theorem zfd_same {A : Type} {g : Nat → A → A} {a : A} : ∀ (k i : Nat), (∀ j, i ≤ j → j < i + k → g j a = a) → zfd g k i a = a := by
  intro k
  induction k with
  | zero => intro i _; rfl
  | succ k ih =>
    intro i h
    show zfd g k (i + 1) (g i a) = a
    rw [h i (Nat.le_refl _) (by omega)]
    exact ih (i + 1) (fun j h1 h2 => h j (by omega) (by omega))
theorem zgo_same : ∀ (rest : List Nat) (pre : List (Nat × Nat)) (cross : Nat) (st : Nat × List Nat), (∀ ss, zok rest.length ss → st.1 ≤ ztot rest pre cross ss) → zgo rest pre cross st = st := by
  intro rest
  induction rest with
  | nil =>
    intro pre cross st h
    have h0 : st.1 ≤ cross := h [] trivial
    rw [zgo, if_pos h0]
  | cons b rest ih =>
    intro pre cross st h
    rw [zgo]
    split
    · rfl
    · refine zfd_same 9 0 (fun t _ ht => ?_)
      exact ih _ _ st (fun ss hss => h (t :: ss) ⟨by omega, hss⟩)
theorem zgo_le : ∀ (rest : List Nat) (pre : List (Nat × Nat)) (cross : Nat) (st : Nat × List Nat), (zgo rest pre cross st).1 ≤ st.1 := fun rest pre cross st => Nat.le_of_lt_succ (zgo_lt (X := st.1 + 1) rest pre cross st (by omega))
theorem zfd_at {g : Nat → Nat × List Nat → Nat × List Nat} {X t : Nat} (hg : ∀ j b, (g j b).1 ≤ b.1) (ht : ∀ b, (g t b).1 ≤ X) : ∀ (k i : Nat) (a : Nat × List Nat), i ≤ t → t < i + k → (zfd g k i a).1 ≤ X := by
  intro k
  induction k with
  | zero => intro i a h1 h2; omega
  | succ k ih =>
    intro i a h1 h2
    show (zfd g k (i + 1) (g i a)).1 ≤ X
    by_cases e : i = t
    · subst e
      exact Nat.le_trans (Nat.le_of_lt_succ (zfd_P (fun st => st.1 < (g i a).1 + 1) k (i + 1) (g i a) (fun j b hb => Nat.lt_of_le_of_lt (hg j b) hb) (by omega))) (ht a)
    · exact ih (i + 1) _ (by omega) (by omega)
theorem zgo_ub : ∀ (rest : List Nat) (pre : List (Nat × Nat)) (cross : Nat) (st : Nat × List Nat) (ss : List Nat), zok rest.length ss → (zgo rest pre cross st).1 ≤ ztot rest pre cross ss := by
  intro rest
  induction rest with
  | nil =>
    intro pre cross st ss _
    rw [zgo]
    show _ ≤ cross
    split
    · assumption
    · exact Nat.le_refl _
  | cons b rest ih =>
    intro pre cross st ss hss
    cases ss with
    | nil => exact absurd hss (by simp [zok])
    | cons t ss =>
      rw [zgo]
      split
      · rename_i h
        exact Nat.le_trans h (ztot_ge (b :: rest) pre cross (t :: ss))
      · exact zfd_at (g := fun t st => zgo rest (pre ++ [(b, t)]) (cross + zadd pre b t) st) (t := t) (fun j b => zgo_le _ _ _ b) (fun st => ih _ _ st ss hss.2) 9 0 st (by omega) (by have := hss.1; omega)
theorem zgo_lb {X : Nat} : ∀ (rest : List Nat) (pre : List (Nat × Nat)) (cross : Nat) (st : Nat × List Nat), (∀ ss, zok rest.length ss → X ≤ ztot rest pre cross ss) → X ≤ st.1 → X ≤ (zgo rest pre cross st).1 := by
  intro rest
  induction rest with
  | nil =>
    intro pre cross st h hX
    rw [zgo]
    split
    · exact hX
    · exact h [] trivial
  | cons b rest ih =>
    intro pre cross st h hX
    rw [zgo]
    split
    · exact hX
    · have : ∀ (k i : Nat) (st : Nat × List Nat), i + k ≤ 9 → X ≤ st.1 → X ≤ (zfd (fun t st => zgo rest (pre ++ [(b, t)]) (cross + zadd pre b t) st) k i st).1 := by
        intro k
        induction k with
        | zero => intro i st _ h; exact h
        | succ k ihk =>
          intro i st hi hst
          exact ihk (i + 1) _ (by omega) (ih _ _ st (fun ss hss => h (i :: ss) ⟨by omega, hss⟩) hst)
      exact this 9 0 st (by omega) hX
/-- where it begins doesn't matter, if far enough -/
theorem zgo_far : ∀ (rest : List Nat) (pre : List (Nat × Nat)) (cross : Nat) (st st2 : Nat × List Nat), pre.length + rest.length ≤ 4 → cross + 324 * rest.length < st.1 → cross + 324 * rest.length < st2.1 → zgo rest pre cross st = zgo rest pre cross st2 := by
  intro rest
  induction rest with
  | nil =>
    intro pre cross st st2 _ h1 h2
    simp only [List.length_nil, Nat.mul_zero, Nat.add_zero] at h1 h2
    rw [zgo, zgo, if_neg (by omega), if_neg (by omega)]
  | cons b rest ih =>
    intro pre cross st st2 h4 h1 h2
    simp only [List.length_cons] at h1 h2 h4
    rw [zgo, zgo, if_neg (by omega), if_neg (by omega)]
    have hz := zadd_le b 0 pre
    show zfd (fun t st => zgo rest (pre ++ [(b, t)]) (cross + zadd pre b t) st) 8 1 (zgo rest (pre ++ [(b, 0)]) (cross + zadd pre b 0) st) = zfd (fun t st => zgo rest (pre ++ [(b, t)]) (cross + zadd pre b t) st) 8 1 (zgo rest (pre ++ [(b, 0)]) (cross + zadd pre b 0) st2)
    rw [ih (pre ++ [(b, 0)]) (cross + zadd pre b 0) st st2 (by simp; omega) (by omega) (by omega)]
/-- the least of some -/
def zmn (k0 : Nat) (f : Nat → Nat) : Nat → Nat
  | 0 => k0
  | k + 1 => if f k < zmn k0 f k then f k else zmn k0 f k
theorem zmn_le {k0 : Nat} {f : Nat → Nat} : ∀ k, zmn k0 f k ≤ k0 ∧ ∀ i, i < k → zmn k0 f k ≤ f i := by
  intro k
  induction k with
  | zero => exact ⟨Nat.le_refl _, fun i hi => by omega⟩
  | succ k ih =>
    rw [zmn]
    refine ⟨?_, fun i hi => ?_⟩
    · split
      · have := ih.1; omega
      · exact ih.1
    · by_cases e : i = k
      · subst e; split <;> omega
      · have := ih.2 i (by omega)
        split <;> omega
theorem zmn_ge {k0 X : Nat} {f : Nat → Nat} : ∀ k, X ≤ k0 → (∀ i, i < k → X ≤ f i) → X ≤ zmn k0 f k := by
  intro k
  induction k with
  | zero => intro h _; exact h
  | succ k ih =>
    intro h hf
    rw [zmn]
    split
    · exact hf k (by omega)
    · exact ih h (fun i hi => hf i (by omega))
def zfew (a b : Nat) : Nat := zmn 9 (zap a b) 25
theorem zfew_le (a b : Nat) : zfew a b ≤ 9 := (zmn_le 25).1
theorem zfew_cr (a b : Nat) {s t : Nat} (hs : s < 9) (ht : t < 9) : zfew a b ≤ zcr a s b t := by
  have h1 := zPL_12 s hs
  have h2 := zPL_12 t ht
  exact (zmn_le 25).2 _ (by omega)
theorem zPL_all : ∀ i, i < 25 → ∃ s, s < 9 ∧ ∃ t, t < 9 ∧ 12 + zPL t - zPL s = i := by decide +kernel
theorem zap_0 (a b : Nat) : zap a b 0 ≤ 9 := by
  refine Nat.le_trans (zsum_le 9 (k := 1) (fun c hc => ?_)) (by decide)
  have : zsum 9 (fun d => zbit a c * (zbit b d * (if zPL c + 12 = 0 + zPL d then 1 else 0))) ≤ zsum 9 (fun d => if d = 8 then 1 else 0) := by
    have h : ∀ k, k ≤ 9 → zsum k (fun d => zbit a c * (zbit b d * (if zPL c + 12 = 0 + zPL d then 1 else 0))) ≤ zsum k (fun d => if d = 8 then 1 else 0) := by
      intro k
      induction k with
      | zero => intro _; exact Nat.le_refl _
      | succ k ih =>
        intro hk
        have h1 := ih (by omega)
        have h2 : zbit a c * (zbit b k * (if zPL c + 12 = 0 + zPL k then 1 else 0)) ≤ (if k = 8 then 1 else 0) := by
          have hz : ∀ k, k < 8 → zPL k < 12 := by decide
          by_cases e : k = 8
          · rw [if_pos e]
            have h3 : zbit b k * (if zPL c + 12 = 0 + zPL k then 1 else 0) ≤ 1 * 1 := Nat.mul_le_mul (zbit_le b k) (by split <;> omega)
            exact Nat.mul_le_mul (zbit_le a c) h3
          · have := hz k (by omega)
            rw [if_neg (show ¬ zPL c + 12 = 0 + zPL k by omega), Nat.mul_zero, Nat.mul_zero]
            exact Nat.zero_le _
        show zsum k _ + _ ≤ zsum k _ + _
        exact Nat.add_le_add h1 h2
    exact h 9 (by decide)
  exact Nat.le_trans this (by decide)
/-- of two -/
theorem zmono2 (a b : Nat) : (zmono [a, b]).1 = zfew a b := by
  apply Nat.le_antisymm
  · refine zmn_ge 25 ?_ (fun i hi => ?_)
    · obtain ⟨s, hs, t, ht, e⟩ := zPL_all 0 (by decide)
      have := zgo_ub [a, b] [] 0 (268435456, []) [s, t] ⟨hs, ht, trivial⟩
      refine Nat.le_trans this ?_
      show 0 + 0 + (zap a b (12 + zPL t - zPL s) + 0) ≤ 9
      rw [e]
      have := zap_0 a b
      omega
    · obtain ⟨s, hs, t, ht, e⟩ := zPL_all i hi
      have := zgo_ub [a, b] [] 0 (268435456, []) [s, t] ⟨hs, ht, trivial⟩
      refine Nat.le_trans this ?_
      show 0 + 0 + (zap a b (12 + zPL t - zPL s) + 0) ≤ zap a b i
      rw [e]
      omega
  · refine zgo_lb [a, b] [] 0 (268435456, []) (fun ss hss => ?_) (by have := zfew_le a b; show _ ≤ 268435456; omega)
    cases ss with
    | nil => exact absurd hss (by simp [zok])
    | cons s ss =>
      cases ss with
      | nil => exact absurd hss.2 (by simp [zok])
      | cons t ss =>
        have := zfew_cr a b hss.1 hss.2.1
        show zfew a b ≤ 0 + 0 + (zcr a s b t + 0)
        omega
theorem zap_sym (a b : Nat) {i : Nat} (hi : i < 25) : zap a b i = zap b a (24 - i) := by
  unfold zap
  rw [zsum_swap]
  refine zsum_congr 9 (fun d hd => zsum_congr 9 (fun c hc => ?_))
  have h1 := zPL_12 c hc
  have h2 := zPL_12 d hd
  rw [Nat.mul_left_comm]
  congr 2
  by_cases h : zPL c + 12 = i + zPL d
  · rw [if_pos h, if_pos (by omega)]
  · rw [if_neg h, if_neg (by omega)]
theorem zfew_sym (a b : Nat) : zfew a b = zfew b a := by
  have h : ∀ a b, zfew a b ≤ zfew b a := fun a b => zmn_ge 25 (zfew_le a b) (fun i hi => by
    rw [zap_sym b a hi]
    exact (zmn_le 25).2 _ (by omega))
  exact Nat.le_antisymm (h a b) (h b a)
/-- what is sure to come yet -/
def zxs (b : Nat) : List Nat → Nat
  | [] => 0
  | c :: l => zfew b c + zxs b l
def zlbs : List Nat → List (Nat × Nat) → Nat
  | [], _ => 0
  | b :: rest, pre => zmn 1000000 (fun t => zadd pre b t) 9 + zxs b rest + zlbs rest pre
theorem zadd_snoc (x : Nat × Nat) (b t : Nat) : ∀ l, zadd (l ++ [x]) b t = zadd l b t + zcr x.1 x.2 b t := by
  intro l
  induction l with
  | nil => show zcr x.1 x.2 b t + 0 = 0 + zcr x.1 x.2 b t; omega
  | cons y l ih =>
    show zcr y.1 y.2 b t + zadd (l ++ [x]) b t = zcr y.1 y.2 b t + zadd l b t + zcr x.1 x.2 b t
    rw [ih]; omega
theorem zmn_at9 {f : Nat → Nat} : zmn 1000000 f 9 ≤ 1000000 := (zmn_le 9).1
theorem zlbs_snoc (b t : Nat) (ht : t < 9) (pre : List (Nat × Nat)) (hp : pre.length ≤ 4) : ∀ rest, zlbs rest pre + zxs b rest ≤ zlbs rest (pre ++ [(b, t)]) := by
  intro rest
  induction rest with
  | nil => exact Nat.le_refl _
  | cons c rest ih =>
    have h : zmn 1000000 (fun u => zadd pre c u) 9 + zfew b c ≤ zmn 1000000 (fun u => zadd (pre ++ [(b, t)]) c u) 9 := by
      have h1 := zfew_le b c
      have h2 := (zmn_le (k0 := 1000000) (f := fun u => zadd pre c u) 9).2 0 (by decide)
      have h3 := zadd_le c 0 pre
      refine zmn_ge 9 (by omega) (fun u hu => ?_)
      have h4 := (zmn_le (k0 := 1000000) (f := fun u => zadd pre c u) 9).2 u hu
      have h5 := zfew_cr b c ht hu
      show _ ≤ zadd (pre ++ [(b, t)]) c u
      rw [zadd_snoc]
      show _ ≤ zadd pre c u + zcr b t c u
      omega
    show zmn 1000000 (fun u => zadd pre c u) 9 + zxs c rest + zlbs rest pre + (zfew b c + zxs b rest) ≤ zmn 1000000 (fun u => zadd (pre ++ [(b, t)]) c u) 9 + zxs c rest + zlbs rest (pre ++ [(b, t)])
    omega
theorem zlbs_ok : ∀ (rest : List Nat) (pre : List (Nat × Nat)) (cross : Nat) (ss : List Nat), pre.length + rest.length ≤ 4 → zok rest.length ss → cross + zlbs rest pre ≤ ztot rest pre cross ss := by
  intro rest
  induction rest with
  | nil => intro pre cross ss _ _; exact Nat.le_refl _
  | cons b rest ih =>
    intro pre cross ss h4 hss
    cases ss with
    | nil => exact absurd hss (by simp [zok])
    | cons t ss =>
      simp only [List.length_cons] at h4
      have h1 := ih (pre ++ [(b, t)]) (cross + zadd pre b t) ss (by simp; omega) hss.2
      have h2 := zlbs_snoc b t hss.1 pre (by omega) rest
      have h3 := (zmn_le (k0 := 1000000) (f := fun u => zadd pre b u) 9).2 t hss.1
      show cross + (zmn 1000000 (fun t => zadd pre b t) 9 + zxs b rest + zlbs rest pre) ≤ ztot rest (pre ++ [(b, t)]) (cross + zadd pre b t) ss
      omega
