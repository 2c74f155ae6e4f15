section ANS
variable {n u : Nat} {G M H D A B : Nat → Nat} {c0 c1 : List Nat} {s a b : zS}
set_option maxRecDepth 40000 in
theorem zbc_1k : ∀ k, k < 1024 → zbc (nI k) = nI (zpc 10 k) := by decide +kernel
theorem bc_1k {k : Nat} (s : zS) (h : k < 1024) : f_J6_bitCount_0f7a4 (nI k) s = some (nI (zpc 10 k), s) := by rw [bc_all, zbc_1k k h]
theorem bits_1k {m : Nat} (hm : m < 1024) (s : zS) : f_X8_bitsOf (nI m) s = some (nI (zpc 10 m), s) := by
  rw [bits_ok (by omega) s, zpc_more (n := 10) hm 15]
/-- one who answers with somebody of the others, or with nobody -/
def AG1 (n : Nat) (X : Nat → Int64) (v : Nat) : Prop := X v = -1 ∨ ∃ q, q < n ∧ q ≠ v ∧ X v = (nI q).toInt64
def AOK (n : Nat) (X : Nat → Int64) : Prop := ∀ v, v < n → X v = -1 ∨ ∃ q, q < n ∧ q ≠ v ∧ X v = (nI q).toInt64 ∧ X q = (nI v).toInt64
theorem m1_toInt : (-1 : Int64).toInt = -1 := rfl
theorem an_cases (x : Int64) (hn : n ≤ 7) : x = -1 ∨ (∃ q, q < n ∧ x = (nI q).toInt64) ∨ ((lg_cmp x (-1) < 0 ∨ 0 ≤ lg_cmp x (nI n).toInt64) ∧ x ≠ -1 ∧ (∀ q, q < n → x ≠ (nI q).toInt64) ∧ ∀ t, ZM t n G M c0 c1 → f_X8_isPerson x t = some (0, t)) := by
  have en : (nI n).toInt64.toInt = n := by rw [Int32.toInt_toInt64, nI_toInt (by omega)]
  by_cases h1 : x.toInt = -1
  · exact Or.inl (Int64.toInt_inj.mp h1)
  by_cases h2 : 0 ≤ x.toInt ∧ x.toInt < n
  · refine Or.inr (Or.inl ⟨x.toInt.toNat, by omega, Int64.toInt_inj.mp ?_⟩)
    rw [Int32.toInt_toInt64, nI_toInt (by omega)]
    omega
  · refine Or.inr (Or.inr ⟨?_, fun z => h1 (by rw [z]; rfl), fun q hq z => h2 ?_, fun t ht => ?_⟩)
    · by_cases h3 : x.toInt < 0
      · exact Or.inl ((lg_lt0 _ _).mpr (fun z => by have := Int64.le_iff_toInt_le.mp z; rw [m1_toInt] at this; omega))
      · exact Or.inr ((lg_cmp_ge _ _).mpr (Int64.le_iff_toInt_le.mpr (by rw [en]; omega)))
    · rw [z, Int32.toInt_toInt64, nI_toInt (by omega)]; omega
    · have e : (nI n - 1).toInt64.toInt = (n : Int) - 1 := by
        rw [Int32.toInt_toInt64]
        exact pk_sub_toInt (a := n) (b := 1) (by omega) (by decide)
      unfold f_X8_isPerson
      rw [r77_1 t, Option.bind_some, ht.2.1, wi_ok, if_neg (fun z => h2 ?_), zbd_some]
      · rfl
      · have z1 : 0 ≤ x.toInt := Int64.le_iff_toInt_le.mp z.1
        have z2 := Int64.le_iff_toInt_le.mp z.2
        rw [e] at z2
        omega
theorem il_ne {p q : Nat} (hp : p < 7) (hq : q < 7) (h : p ≠ q) : (nI p).toInt64 ≠ (nI q).toInt64 := fun z => ne_of_nI h (by omega) (by omega) ((il_eq _ _).mp z)
theorem m1_ne {q : Nat} (hq : q < 7) : (-1 : Int64) ≠ (nI q).toInt64 := fun z => by
  have := congrArg Int64.toInt z
  rw [Int32.toInt_toInt64, nI_toInt (by omega), m1_toInt] at this
  omega
theorem read1 {t0 : Nat} {X : Nat → Int64} (hZ : ZK s n G M c0 c1) (hX : ∀ t, zk_k [63] s t → ∀ j, j < n → f_X6_numberAt (nI t0) (nI j) t = some (X j, t)) : ∀ (k i f : Nat) (t : zS), i + k = n → k < f → zk_k [63] s t → (∀ v, v < i → AG1 n X v ∧ t.1 63 v = (X v).toInt32) → (∃ t', f_X7_readAnswers_2 f (nI t0) (nI i) t = f_X7_readAnswers_72 zFU 0 t' ∧ zk_k [63] s t' ∧ ∀ v, v < n → AG1 n X v ∧ t'.1 63 v = (X v).toInt32) ∨ (∃ t', f_X7_readAnswers_2 f (nI t0) (nI i) t = some (0, t') ∧ zk_k [63] s t' ∧ ∃ v, v < n ∧ ¬ AG1 n X v) := by
  have hn := hZ.1
  intro k
  induction k with
  | zero =>
    intro i f t hi hf hk hv
    obtain ⟨f, rfl⟩ : ∃ r, f = r + 1 := ⟨f - 1, by omega⟩
    have e : i = n := by omega
    subst e
    refine Or.inl ⟨t, ?_, hk, hv⟩
    rw [f_X7_readAnswers_2, (hk 3 (by decide)).1, hZ.2.1, if_pos (nI_le (Nat.le_refl _) (by omega))]
  | succ k ih =>
    intro i f t hi hf hk hv
    obtain ⟨f, rfl⟩ : ∃ r, f = r + 1 := ⟨f - 1, by omega⟩
    have e3 : t.1 3 0 = nI n := by rw [(hk 3 (by decide)).1, hZ.2.1]
    have en : (nI n).toInt64.toInt = n := by rw [Int32.toInt_toInt64, nI_toInt (by omega)]
    rw [f_X7_readAnswers_2, e3, if_neg (nI_ge (by omega) (by omega)), hX t hk i (by omega), zbd_some, e3]
    have bad : ¬ AG1 n X i → (∃ t', (some ((0 : Int32), t)) = some ((0 : Int32), t') ∧ zk_k [63] s t' ∧ ∃ v, v < n ∧ ¬ AG1 n X v) := fun h => ⟨t, rfl, hk, i, by omega, h⟩
    have go : lg_cmp (X i) (-1) < 0 → False ∨ ¬ AG1 n X i := fun h => Or.inr (fun z => by
      rcases z with z | ⟨q, q1, q2, q3⟩
      · rw [z] at h; exact absurd h (by decide)
      · have := (lg_lt0 _ _).mp h
        refine this (Int64.le_iff_toInt_le.mpr ?_)
        rw [q3, Int32.toInt_toInt64, nI_toInt (by omega), m1_toInt]; omega)
    by_cases h1 : lg_cmp (X i) (-1) < 0
    · rw [if_pos h1]
      exact Or.inr (bad ((go h1).resolve_left id))
    rw [if_neg h1]
    by_cases h2 : 0 ≤ lg_cmp (X i) (nI n).toInt64
    · rw [if_pos h2]
      refine Or.inr (bad (fun z => ?_))
      have h3 := Int64.le_iff_toInt_le.mp ((lg_cmp_ge _ _).mp h2)
      rw [en] at h3
      rcases z with z | ⟨q, q1, q2, q3⟩
      · rw [z, m1_toInt] at h3; omega
      · rw [q3, Int32.toInt_toInt64, nI_toInt (by omega)] at h3; omega
    rw [if_neg h2]
    by_cases h3 : lg_cmp (X i) (nI i).toInt64 = 0
    · rw [if_neg (fun z => z h3)]
      refine Or.inr (bad (fun z => ?_))
      have h4 := (lg_eq0 _ _).mp h3
      rcases z with z | ⟨q, q1, q2, q3⟩
      · rw [z] at h4; exact m1_ne (by omega) h4
      · rw [q3] at h4; exact il_ne (by omega) (by omega) q2 h4
    · rw [if_pos h3, wr_63 t i rfl (by omega), Option.bind_some, zb_eq, nI_1]
      have hg : AG1 n X i := by
        rcases an_cases (G := G) (M := M) (c0 := c0) (c1 := c1) (X i) hn with z | ⟨q, q1, q2⟩ | ⟨z, -⟩
        · exact Or.inl z
        · exact Or.inr ⟨q, q1, fun e => h3 ((lg_eq0 _ _).mpr (by rw [q2, e])), q2⟩
        · rcases z with z | z
          · exact absurd z h1
          · exact absurd z h2
      refine ih (i + 1) f _ (by omega) (by omega) (hk.i (by simp)) (fun v hv2 => ?_)
      by_cases e : v = i
      · subst e; exact ⟨hg, zs_i_v _ _ _ _⟩
      · rw [zs_i_o _ _ _ _ _ e]; exact hv v (by omega)
theorem read2 {X : Nat → Int64} {t : zS} (hn : n ≤ 7) (h3 : t.1 3 0 = nI n) (hv : ∀ v, v < n → AG1 n X v ∧ t.1 63 v = (X v).toInt32) : ∀ (k i f : Nat), i + k = n → k < f → (∀ v, v < i → X v = -1 ∨ ∃ q, q < n ∧ q ≠ v ∧ X v = (nI q).toInt64 ∧ X q = (nI v).toInt64) → (f_X7_readAnswers_72 f (nI i) t = some (1, t) ∧ AOK n X) ∨ (f_X7_readAnswers_72 f (nI i) t = some (0, t) ∧ ¬ AOK n X) := by
  intro k
  induction k with
  | zero =>
    intro i f hi hf h
    obtain ⟨f, rfl⟩ : ∃ r, f = r + 1 := ⟨f - 1, by omega⟩
    have e : i = n := by omega
    subst e
    refine Or.inl ⟨?_, h⟩
    rw [f_X7_readAnswers_72, h3, if_pos (nI_le (Nat.le_refl _) (by omega))]
  | succ k ih =>
    intro i f hi hf h
    obtain ⟨f, rfl⟩ : ∃ r, f = r + 1 := ⟨f - 1, by omega⟩
    obtain ⟨g1, g2⟩ := hv i (by omega)
    have nx : (X i = -1 ∨ ∃ q, q < n ∧ q ≠ i ∧ X i = (nI q).toInt64 ∧ X q = (nI i).toInt64) → (f_X7_readAnswers_72 f (nI (i + 1)) t = some (1, t) ∧ AOK n X) ∨ (f_X7_readAnswers_72 f (nI (i + 1)) t = some (0, t) ∧ ¬ AOK n X) := fun hg => ih (i + 1) f (by omega) (by omega) (fun v hv2 => by
      by_cases e : v = i
      · subst e; exact hg
      · exact h v (by omega))
    rw [f_X7_readAnswers_72, h3, if_neg (nI_ge (by omega) (by omega)), rd_63 t i rfl (by omega), Option.bind_some, g2]
    rcases g1 with e | ⟨q, q1, q2, q3⟩
    · rw [e, if_pos (by decide), f_X7_readAnswers_112, zb_eq, nI_1]
      exact nx (Or.inl e)
    · rw [q3, Int32.toInt32_toInt64, if_neg (nI_pos (by omega)), rd_63 t q rfl (by omega), Option.bind_some, (hv q q1).2]
      rcases (hv q q1).1 with e | ⟨r, r1, r2, r3⟩
      · have hne : ¬ (-1 : Int64).toInt32 = nI i := fun z => ne_m1 (a := i) (by omega) (z.symm.trans (by decide))
        rw [e, if_neg hne]
        refine Or.inr ⟨rfl, fun z => ?_⟩
        rcases z i (by omega) with z | ⟨q', _, _, z1, z2⟩
        · rw [q3] at z; exact m1_ne (by omega) z.symm
        · rw [q3] at z1
          have eq : q = q' := Classical.byContradiction fun hne => il_ne (by omega) (by omega) hne z1
          subst eq
          rw [e] at z2
          exact m1_ne (by omega) z2
      · rw [r3, Int32.toInt32_toInt64]
        by_cases e : r = i
        · subst e
          rw [if_pos rfl, f_X7_readAnswers_112, zb_eq, nI_1]
          exact nx (Or.inr ⟨q, q1, q2, q3, r3⟩)
        · rw [if_neg (ne_of_nI e (by omega) (by omega))]
          refine Or.inr ⟨rfl, fun z => ?_⟩
          rcases z i (by omega) with z | ⟨q', _, _, z1, z2⟩
          · rw [q3] at z; exact m1_ne (by omega) z.symm
          · rw [q3] at z1
            have eq : q = q' := Classical.byContradiction fun hne => il_ne (by omega) (by omega) hne z1
            subst eq
            rw [r3] at z2
            exact il_ne (by omega) (by omega) e z2
theorem read7 {t0 : Nat} {X : Nat → Int64} (hZ : ZK s n G M c0 c1) (hX : ∀ t, zk_k [63] s t → ∀ j, j < n → f_X6_numberAt (nI t0) (nI j) t = some (X j, t)) : ∃ s', zk_k [63] s s' ∧ ((f_X7_readAnswers (nI t0) s = some (1, s') ∧ AOK n X ∧ ∀ v, v < n → s'.1 63 v = (X v).toInt32) ∨ (f_X7_readAnswers (nI t0) s = some (0, s') ∧ ¬ AOK n X)) := by
  have hn := hZ.1
  rcases read1 hZ hX n 0 zFU s (by omega) (show n < 5000 by omega) zk_k.rf (fun v hv => by omega) with ⟨t, h1, h2, h3⟩ | ⟨t, h1, h2, v, h3, h4⟩
  · refine ⟨t, h2, ?_⟩
    have h1' : f_X7_readAnswers (nI t0) s = f_X7_readAnswers_72 zFU 0 t := h1
    rw [h1']
    rcases read2 hn (by rw [(h2 3 (by decide)).1]; exact hZ.2.1) h3 n 0 zFU (by omega) (show n < 5000 by omega) (fun v hv => by omega) with ⟨g1, g2⟩ | ⟨g1, g2⟩
    · exact Or.inl ⟨g1, g2, fun v hv => (h3 v hv).2⟩
    · exact Or.inr ⟨g1, g2⟩
  · refine ⟨t, h2, Or.inr ⟨h1, fun z => h4 ?_⟩⟩
    rcases z v h3 with z | ⟨q, z1, z2, z3, -⟩
    · exact Or.inl z
    · exact Or.inr ⟨q, z1, z2, z3⟩
theorem read8 {t0 : Nat} {X : Nat → Int64} {t : zS} (ht : t0 < 4) (hZ : ZM t n G M c0 c1) (hX : ∀ j, j < n → t.2 99 (40 * t0 + j) = X j) : ∀ (k i f : Nat), i + k = n → k < f → (∀ v, v < i → X v = -1 ∨ ∃ q, q < n ∧ q ≠ v ∧ X v = (nI q).toInt64 ∧ X q = (nI v).toInt64) → (f_X8_noAnswers_57 f (nI t0) (nI i) t = some (0, t) ∧ AOK n X) ∨ (f_X8_noAnswers_57 f (nI t0) (nI i) t = some (-3, t) ∧ ¬ AOK n X) := by
  have hn := hZ.1
  intro k
  induction k with
  | zero =>
    intro i f hi hf h
    obtain ⟨f, rfl⟩ : ∃ r, f = r + 1 := ⟨f - 1, by omega⟩
    have e : i = n := by omega
    subst e
    refine Or.inl ⟨?_, h⟩
    rw [f_X8_noAnswers_57, r77_1, Option.bind_some, hZ.2.1, if_pos (nI_le (Nat.le_refl _) (by omega))]
  | succ k ih =>
    intro i f hi hf h
    obtain ⟨f, rfl⟩ : ∃ r, f = r + 1 := ⟨f - 1, by omega⟩
    have nx : (X i = -1 ∨ ∃ q, q < n ∧ q ≠ i ∧ X i = (nI q).toInt64 ∧ X q = (nI i).toInt64) → (f_X8_noAnswers_57 f (nI t0) (nI (i + 1)) t = some (0, t) ∧ AOK n X) ∨ (f_X8_noAnswers_57 f (nI t0) (nI (i + 1)) t = some (-3, t) ∧ ¬ AOK n X) := fun hg => ih (i + 1) f (by omega) (by omega) (fun v hv2 => by
      by_cases e : v = i
      · subst e; exact hg
      · exact h v (by omega))
    rw [f_X8_noAnswers_57, r77_1, Option.bind_some, hZ.2.1, if_neg (nI_ge (by omega) (by omega)), rd_99 t (40 * t0 + i) (by rw [pk_mul, nI_add]) (by omega), Option.bind_some, hX i (by omega)]
    rcases an_cases (G := G) (M := M) (c0 := c0) (c1 := c1) (X i) hn with e | ⟨q, q1, q3⟩ | ⟨-, z1, z2, z3⟩
    · rw [if_neg (fun z => z ((lg_eq0 _ _).mpr e)), f_X8_noAnswers_135, zb_eq, nI_1]
      exact nx (Or.inl e)
    · have hm : X i ≠ -1 := fun z => m1_ne (q := q) (by omega) (z.symm.trans q3)
      rw [if_pos (fun z => hm ((lg_eq0 _ _).mp z)), q3, perM hZ (by omega), if_pos q1, zbd_some, if_neg (by decide)]
      by_cases e : q = i
      · subst e
        rw [if_pos ((lg_eq0 _ _).mpr rfl)]
        refine Or.inr ⟨rfl, fun z => ?_⟩
        rcases z q (by omega) with z | ⟨q', _, z2, z1, -⟩
        · exact hm z
        · rw [q3] at z1; exact il_ne (by omega) (by omega) (Ne.symm z2) z1
      · rw [if_neg (fun z => il_ne (by omega) (by omega) e ((lg_eq0 _ _).mp z)), Int32.toInt32_toInt64, rd_99 t (40 * t0 + q) (by rw [pk_mul, nI_add]) (by omega), Option.bind_some, hX q q1]
        by_cases e2 : X q = (nI i).toInt64
        · rw [if_pos ((lg_eq0 _ _).mpr e2), f_X8_noAnswers_135, zb_eq, nI_1]
          exact nx (Or.inr ⟨q, q1, e, q3, e2⟩)
        · rw [if_neg (fun z => e2 ((lg_eq0 _ _).mp z))]
          refine Or.inr ⟨rfl, fun z => ?_⟩
          rcases z i (by omega) with z | ⟨q', _, _, z1, z2⟩
          · exact hm z
          · rw [q3] at z1
            have eq : q = q' := Classical.byContradiction fun hne => il_ne (by omega) (by omega) hne z1
            subst eq
            exact e2 z2
    · rw [if_pos (fun z => z1 ((lg_eq0 _ _).mp z)), z3 t hZ, zbd_some, if_pos rfl]
      refine Or.inr ⟨rfl, fun z => ?_⟩
      rcases z i (by omega) with z | ⟨q', q1, _, z4, -⟩
      · exact z1 z
      · exact z2 q' q1 z4
theorem AOK.w {X : Nat → Int64} (h : AOK n X) (hn : n ≤ 7) : ∃ W : Nat → Option Nat, zvv n W ∧ ∀ p, p < n → (X p).toInt32 = oI (W p) := by
  have h1 : zWV (fun p => (X p).toInt32) n := fun p hp => by
    rcases h p hp with e | ⟨q, q1, q2, q3, q4⟩
    · exact Or.inl (by show (X p).toInt32 = -1; rw [e]; rfl)
    · exact Or.inr ⟨q, q1, q2, by show (X p).toInt32 = nI q; rw [q3, Int32.toInt32_toInt64], by show (X q).toInt32 = nI p; rw [q4, Int32.toInt32_toInt64]⟩
  obtain ⟨W, w1, w2⟩ := zWV.w h1 hn
  exact ⟨W, w2, w1⟩
end ANS
