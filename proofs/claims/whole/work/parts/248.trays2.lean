/-- a number of a tray as a deed; others than deeds are 499 -/
def zcdd (x : Int64) : Nat := if (0 ≤ x ∧ x ≤ 399) ∧ ¬ (109 < x ∧ x < 200) then x.toInt.toNat else 499
theorem l400 (x : Int64) : (zcdd x = 499 ∧ ((x < 0 ∨ 399 < x) ∨ (109 < x ∧ x < 200))) ∨ ∃ v, v < 400 ∧ ¬ (109 < v ∧ v < 200) ∧ x = lN v ∧ zcdd x = v := by
  unfold zcdd
  by_cases h : (0 ≤ x ∧ x ≤ 399) ∧ ¬ (109 < x ∧ x < 200)
  · right
    obtain ⟨k, hk, rfl⟩ := pk_lOf (Int64.not_lt.mpr h.1.1)
    have h1 : k ≤ 399 := (pk_lLE (b := 399) hk (by decide)).mp h.1.2
    have h2 : ¬ (109 < k ∧ k < 200) := fun z => h.2 ⟨(pk_lLT (a := 109) (by decide) hk).mpr z.1, (pk_lLT (b := 200) hk (by decide)).mpr z.2⟩
    refine ⟨k, by omega, h2, rfl, ?_⟩
    rw [if_pos h, pk_lT hk]; rfl
  · left
    refine ⟨if_neg h, ?_⟩
    by_cases h1 : x < 0
    · exact Or.inl (Or.inl h1)
    · by_cases h2 : 399 < x
      · exact Or.inl (Or.inr h2)
      · refine Or.inr (Decidable.byContradiction (fun h3 => h ⟨⟨Int64.not_lt.mp h1, Int64.not_lt.mp h2⟩, h3⟩))
def zd1 (n : Nat) (c0 c1 : List Nat) (x : Int64) (st : (Nat → Nat) × (Nat → Nat) × (Nat → Option Nat)) : Nat × (Nat → Nat) × (Nat → Nat) × (Nat → Option Nat) := zdo n c0 c1 (zcdd x / 100) (zcdd x % 100 / 10) (zcdd x % 10) st
def ztl (n : Nat) (c0 c1 : List Nat) (X : Nat → Int64) : Nat → Nat → (Nat → Nat) × (Nat → Nat) × (Nat → Option Nat) → Nat × Nat × (Nat → Nat) × (Nat → Nat) × (Nat → Option Nat)
  | 0, i, st => (i, 0, st)
  | k + 1, i, st => if (zd1 n c0 c1 (X i) st).1 = 0 then ztl n c0 c1 X k (i + 1) (zd1 n c0 c1 (X i) st).2 else (i, (zd1 n c0 c1 (X i) st).1, st)
section TRAY2
variable {n : Nat} {H A B : Nat → Nat} {c0 c1 : List Nat} {s : zS} {st : (Nat → Nat) × (Nat → Nat) × (Nat → Option Nat)}
theorem zdo_no (k a b : Nat) (h : (zdo n c0 c1 k a b st).1 ≠ 0) : (zdo n c0 c1 k a b st).2 = st := by
  unfold zdo at h ⊢
  by_cases h0 : k = 0
  · rw [if_pos h0] at h ⊢
    split at h
    · rename_i hc
      rw [if_pos hc]
      split at h
      · exact absurd rfl h
      · rename_i hz; rw [if_neg hz]
    · rename_i hc; rw [if_neg hc]
  · rw [if_neg h0] at h ⊢
    by_cases h1 : k = 1
    · rw [if_pos h1] at h ⊢
      split at h
      · rename_i hc
        rw [if_pos hc]
        split at h
        · rename_i hz; rw [if_pos hz]
        · exact absurd rfl h
      · rename_i hc; rw [if_neg hc]
    · rw [if_neg h1] at h ⊢
      by_cases h2 : k = 2
      · rw [if_pos h2] at h ⊢
        split at h
        · exact absurd rfl h
        · rename_i hc; rw [if_neg hc]
      · rw [if_neg h2] at h ⊢
        by_cases h3 : k = 3
        · rw [if_pos h3] at h ⊢
          split at h
          · exact absurd rfl h
          · rename_i hc; rw [if_neg hc]
        · rw [if_neg h3]
theorem zdo_le (k a b : Nat) : (zdo n c0 c1 k a b st).1 ≤ 4 := by
  unfold zdo zwe
  repeat' split
  all_goals (simp only []; omega)
theorem zdo_1a (a b : Nat) : zdo n c0 c1 1 a b st = zdo n c0 c1 1 0 b st := by
  unfold zdo
  rfl
theorem one7 (hS : CSt s n st H c0 c1 A B) (x : Int64) (hab : AB A B 1) : ∃ s' A2 B2, f_X1_tryDeed (nI (zcdd x) / nI 100) ((zo_rem (nI (zcdd x)) (nI 100)) / nI 10) (zo_rem (nI (zcdd x)) (nI 10)) s = some (nI (zd1 n c0 c1 x st).1, s') ∧ CSt s' n (zd1 n c0 c1 x st).2 H c0 c1 A2 B2 ∧ zk_k DC s s' ∧ AG A B A2 B2 1 ∧ (∀ j, j ≠ 3 → s'.1 72 j = s.1 72 j) := by
  have hc : zcdd x < 500 := by
    rcases l400 x with ⟨h, -⟩ | ⟨v, hv, -, -, h⟩ <;> omega
  rw [pk_div (by omega) (by decide) (by decide), show zo_rem (nI (zcdd x)) (nI 100) = nI (zcdd x % 100) from pk_rem (by omega) (by decide) (by decide), pk_div (by omega) (by decide) (by decide), show zo_rem (nI (zcdd x)) (nI 10) = nI (zcdd x % 10) from pk_rem (by omega) (by decide) (by decide)]
  exact deed7 hS (by omega) (by omega) (by omega) (fun _ => zdo_1a _ _) hab
theorem tray7 {t z : Nat} {X : Nat → Int64} : ∀ (k i f : Nat) (st : (Nat → Nat) × (Nat → Nat) × (Nat → Option Nat)) (A B : Nat → Nat) (s : zS), i + k = z → k < f → z ≤ 40 → CSt s n st H c0 c1 A B → AB A B k → (∀ j, j < z → f_X6_numberAt (nI t) (nI j) s = some (X j, s) ) → (∀ (u : zS) j, zk_k DC s u → j < z → f_X6_numberAt (nI t) (nI j) u = some (X j, u)) → s.1 72 4 = 0 →
    ∃ s' A2 B2, f_X1_doTray_16 f (nI t) (nI z) (nI i) s = some (nI (ztl n c0 c1 X k i st).1, s') ∧ CSt s' n (ztl n c0 c1 X k i st).2.2 H c0 c1 A2 B2 ∧ s'.1 72 4 = nI (ztl n c0 c1 X k i st).2.1 ∧ zk_k DC s s' ∧ AG A B A2 B2 k := by
  intro k
  induction k with
  | zero =>
    intro i f st A B s hi hf hz hS hab hX hX2 h72
    obtain ⟨f, rfl⟩ : ∃ r, f = r + 1 := ⟨f - 1, by omega⟩
    have e : i = z := by omega
    subst e
    rw [f_X1_doTray_16, if_pos (nI_le (Nat.le_refl _) (by omega))]
    exact ⟨s, A, B, rfl, hS, h72, zk_k.rf, AG.rf⟩
  | succ k ih =>
    intro i f st A B s hi hf hz hS hab hX hX2 h72
    obtain ⟨f, rfl⟩ : ∃ r, f = r + 1 := ⟨f - 1, by omega⟩
    obtain ⟨s1, A2, B2, a1, a2, a3, a4, a5⟩ := one7 hS (X i) (hab.less (by omega))
    have e75 : f_X1_doTray_16 (f + 1) (nI t) (nI z) (nI i) s = f_X1_doTray_75 (f_X1_doTray_16 f) (nI t) (nI z) (nI i) (nI (zcdd (X i))) s := by
      rw [f_X1_doTray_16, if_neg (nI_ge (by omega) (by omega)), hX i (by omega), zbd_some]
      rcases l400 (X i) with ⟨hc, hr⟩ | ⟨v, hv, hno, hx, hc⟩
      · rw [hc]
        by_cases h1 : X i < 0
        · rw [if_pos ((lg_lt0 _ _).mpr (Int64.not_le.mpr h1)), f_X1_doTray_66]
        · rw [if_neg (fun z => (lg_lt0 _ _).mp z (Int64.not_lt.mp h1))]
          by_cases h2 : 399 < X i
          · rw [if_pos (Int32.not_le.mp (fun z => absurd ((lg_le0 _ _).mp z) (Int64.not_le.mpr h2))), f_X1_doTray_66]
          · have h3 : 109 < X i ∧ X i < 200 := by
              rcases hr with (h | h) | h
              · exact absurd h h1
              · exact absurd h h2
              · exact h
            rw [if_neg (fun z => Int32.not_le.mpr z ((lg_le0 _ _).mpr (Int64.not_lt.mp h2))), if_neg (fun z => absurd ((lg_le0 _ _).mp z) (Int64.not_le.mpr h3.1)), if_neg (fun z => absurd ((lg_cmp_ge _ _).mp z) (Int64.not_le.mpr h3.2)), f_X1_doTray_66]
      · rw [hc, hx]
        have y1 : (0 : Int64) ≤ lN v := (pk_lLE (a := 0) (b := v) (by decide) (by omega)).mpr (Nat.zero_le _)
        have y2 : lN v ≤ (399 : Int64) := (pk_lLE (a := v) (b := 399) (by omega) (by decide)).mpr (by omega)
        rw [if_neg (fun z => (lg_lt0 _ _).mp z y1), if_neg (fun z => Int32.not_le.mpr z ((lg_le0 _ _).mpr y2))]
        by_cases h1 : v ≤ 109
        · rw [if_pos (show lg_cmp (lN v) (109 : Int64) ≤ 0 from (lg_le0 _ _).mpr ((pk_lLE (a := v) (b := 109) (by omega) (by decide)).mpr h1)), f_X1_doTray_72, (dec_1 v hv).2.2]
        · rw [if_neg (show ¬ lg_cmp (lN v) (109 : Int64) ≤ 0 from fun z => h1 ((pk_lLE (a := v) (b := 109) (by omega) (by decide)).mp ((lg_le0 _ _).mp z))), if_pos (show 0 ≤ lg_cmp (lN v) (200 : Int64) from (lg_cmp_ge _ _).mpr ((pk_lLE (a := 200) (b := v) (by decide) (by omega)).mpr (by omega))), f_X1_doTray_72, (dec_1 v hv).2.2]
    have hle : (zd1 n c0 c1 (X i) st).1 ≤ 4 := zdo_le _ _ _
    rw [e75, f_X1_doTray_75, a1, zbd_some, zb_eq, zs_i_v, ztl]
    have k1 : zk_k DC s (zs_i s1 72 4 (nI (zd1 n c0 c1 (X i) st).1)) := a3.i (by decide)
    have k2 : zk_k [72] s1 (zs_i s1 72 4 (nI (zd1 n c0 c1 (X i) st).1)) := zk_k.rf.i (by simp)
    by_cases e : (zd1 n c0 c1 (X i) st).1 = 0
    · rw [if_pos e, e, if_pos (show nI 0 = (0 : Int32) from rfl), zb_eq, nI_1]
      rw [e] at k1 k2
      obtain ⟨s2, A3, B3, b1, b2, b3, b4, b5⟩ := ih (i + 1) f (zd1 n c0 c1 (X i) st).2 A2 B2 (zs_i s1 72 4 (nI 0)) (by omega) (by omega) hz ⟨a2.1.w k2 (by decide), a2.2.keep k2 (by decide)⟩ (AB.go (k := 1) (l := k) (by rw [Nat.add_comm]; exact hab) a4) (fun j hj => hX2 _ j k1 hj) (fun u j hu hj => hX2 u j (k1.tr hu) hj) (zs_i_v _ _ _ _)
      exact ⟨s2, A3, B3, b1, b2, b3, k1.tr b4, (a4.tr b5).up (by omega)⟩
    · rw [if_neg e, if_neg (nI_ne0 (by omega) (by omega))]
      have hst : (zd1 n c0 c1 (X i) st).2 = st := zdo_no _ _ _ e
      rw [hst] at a2
      exact ⟨_, A2, B2, rfl, ⟨a2.1.w k2 (by decide), a2.2.keep k2 (by decide)⟩, zs_i_v _ _ _ _, k1, a4.up (by omega)⟩
theorem why8x (hR : RSt s n st c0 c1) (x : Int64) : ∃ s1, f_X8_whyNot x s = some (nI (zd1 n c0 c1 x st).1, s1) ∧ RSt s1 n st c0 c1 ∧ RDf s s1 ∧ ((zd1 n c0 c1 x st).1 = 0 → ∀ u, RSt u n st c0 c1 → ∃ s2, f_X8_does x.toInt32 u = some ((), s2) ∧ RSt s2 n (zd1 n c0 c1 x st).2 c0 c1 ∧ RDf u s2 ∧ zk_k [77] u s2) := by
  unfold zd1
  rcases l400 x with ⟨hc, hr⟩ | ⟨v, hv, hno, rfl, hc⟩
  · have e : zdo n c0 c1 (zcdd x / 100) (zcdd x % 100 / 10) (zcdd x % 10) st = (1, st) := by
      rw [hc]
      unfold zdo
      rw [if_neg (by decide), if_neg (by decide), if_neg (by decide), if_neg (by decide)]
    rw [e]
    refine ⟨s, ?_, hR, RDf.rf, fun z => (by cases z)⟩
    have lt1 : ∀ {a b c : Int64}, a < b → b ≤ c → ¬ c ≤ a := fun h1 h2 h3 => by
      have y1 := Int64.lt_iff_toInt_lt.mp h1
      have y2 := Int64.le_iff_toInt_le.mp h2
      have y3 := Int64.le_iff_toInt_le.mp h3
      omega
    have no : ∀ lo hi : Int64, (x < lo ∨ hi < x) → f_X8_within x lo hi s = some (0, s) := fun lo hi h => by
      rw [wi_ok, if_neg (fun z => by
        rcases h with h | h
        · exact absurd z.1 (Int64.not_le.mpr h)
        · exact absurd z.2 (Int64.not_le.mpr h))]
    have tr1 : ∀ {a b : Int64}, (a : Int64) < x → b.toInt ≤ a.toInt → b < x := fun h1 h2 => Int64.lt_iff_toInt_lt.mpr (by have := Int64.lt_iff_toInt_lt.mp h1; omega)
    have tr2 : ∀ {a b : Int64}, x < a → a.toInt ≤ b.toInt → x < b := fun h1 h2 => Int64.lt_iff_toInt_lt.mpr (by have := Int64.lt_iff_toInt_lt.mp h1; omega)
    have q1 : f_X8_within x 0 99 s = some (0, s) := no _ _ (by
      rcases hr with (h | h) | h
      · exact Or.inl h
      · exact Or.inr (tr1 h (by decide))
      · exact Or.inr (tr1 h.1 (by decide)))
    have q2 : f_X8_within x 100 109 s = some (0, s) := no _ _ (by
      rcases hr with (h | h) | h
      · exact Or.inl (tr2 h (by decide))
      · exact Or.inr (tr1 h (by decide))
      · exact Or.inr h.1)
    have q3 : f_X8_within x 200 299 s = some (0, s) := no _ _ (by
      rcases hr with (h | h) | h
      · exact Or.inl (tr2 h (by decide))
      · exact Or.inr (tr1 h (by decide))
      · exact Or.inl h.2)
    have q4 : f_X8_within x 300 399 s = some (0, s) := no _ _ (by
      rcases hr with (h | h) | h
      · exact Or.inl (tr2 h (by decide))
      · exact Or.inr h
      · exact Or.inl (tr2 h.2 (by decide)))
    rw [f_X8_whyNot, zb_eq, zb_eq, q1, zbd_some, if_pos rfl, q2, zbd_some, if_pos rfl, q3, zbd_some, if_pos rfl, q4, zbd_some, if_pos rfl]
    rfl
  · rw [hc, (dec_1 v hv).2.2]
    exact deed8 hR hv hno
theorem tells8 {t z : Nat} {X : Nat → Int64} (ht : t < 4) : ∀ (k i f : Nat) (st : (Nat → Nat) × (Nat → Nat) × (Nat → Option Nat)) (s : zS), i + k = z → k < f → z ≤ 40 → RSt s n st c0 c1 → s.1 98 t = nI z → (∀ j, j < z → s.2 99 (40 * t + j) = X j) → s.1 76 28 = 0 →
    ∃ s', f_X8_tells_7 f (nI t) (nI i) s = some (nI (ztl n c0 c1 X k i st).1, s') ∧ RSt s' n (ztl n c0 c1 X k i st).2.2 c0 c1 ∧ s'.1 76 28 = nI (ztl n c0 c1 X k i st).2.1 ∧ RDf s s' := by
  intro k
  induction k with
  | zero =>
    intro i f st s hi hf hz hR h98 h99 h28
    obtain ⟨f, rfl⟩ : ∃ r, f = r + 1 := ⟨f - 1, by omega⟩
    have e : i = z := by omega
    subst e
    have er : zr_i s 98 (nI t) = some (nI i) := by rw [rd_98 s t rfl ht, h98]
    rw [f_X8_tells_7, er, Option.bind_some, if_pos (nI_le (Nat.le_refl _) (by omega)), Option.bind_some]
    exact ⟨s, rfl, hR, h28, RDf.rf⟩
  | succ k ih =>
    intro i f st s hi hf hz hR h98 h99 h28
    obtain ⟨f, rfl⟩ : ∃ r, f = r + 1 := ⟨f - 1, by omega⟩
    have er : zr_i s 98 (nI t) = some (nI z) := by rw [rd_98 s t rfl ht, h98]
    have e99 : ∀ u : zS, RDf s u → zr_l u 99 (nI 40 * nI t + nI i) = some (X i) := fun u hu => by
      rw [rd_99 u (40 * t + i) (by rw [pk_mul, nI_add]) (by omega), (hu.1.1 99 (by decide)).2, h99 i (by omega)]
    obtain ⟨s1, a1, a2, a3, a4⟩ := why8x hR (X i)
    have hle : (zd1 n c0 c1 (X i) st).1 ≤ 4 := zdo_le _ _ _
    rw [f_X8_tells_7, er, Option.bind_some, if_neg (nI_ge (by omega) (by omega)), e99 s RDf.rf, Option.bind_some, a1, zbd_some, zb_eq, zs_i_v, ztl]
    have kf : RDf s1 (zs_i s1 76 28 (nI (zd1 n c0 c1 (X i) st).1)) := ⟨zk_m.rf.f (by decide) (by decide) (by decide), fun j _ => by rw [zs_i_n _ _ _ _ _ (by decide)], by rw [zs_i_n _ _ _ _ _ (by decide)]⟩
    have hR1 : RSt (zs_i s1 76 28 (nI (zd1 n c0 c1 (X i) st).1)) n st c0 c1 := ⟨a2.1.keep (zk_k.rf.i (S := [76]) (by simp)) (by decide), a2.2.keep (zs_i_n _ _ _ _ _ (by decide))⟩
    by_cases e : (zd1 n c0 c1 (X i) st).1 = 0
    · obtain ⟨s3, x1, x2, x3, x5⟩ := a4 e _ hR1
      have x4 : s3.1 76 28 = nI (zd1 n c0 c1 (X i) st).1 := by rw [(x5 76 (by decide)).1, zs_i_v]
      rw [if_pos e, e, if_pos (show nI 0 = (0 : Int32) from rfl)]
      rw [e] at kf x1 x3 x4
      rw [e99 _ (a3.tr kf), Option.bind_some, x1, zbd_some, zb_eq, nI_1]
      have kf3 : RDf s s3 := (a3.tr kf).tr x3
      obtain ⟨s4, y1, y2, y3, y4⟩ := ih (i + 1) f (zd1 n c0 c1 (X i) st).2 s3 (by omega) (by omega) hz x2 (by rw [(kf3.1.1 98 (by decide)).1]; exact h98) (fun j hj => by rw [(kf3.1.1 99 (by decide)).2]; exact h99 j hj) x4
      exact ⟨s4, y1, y2, y3, kf3.tr y4⟩
    · rw [if_neg e, if_neg (nI_ne0 (by omega) (by omega))]
      exact ⟨_, rfl, hR1, zs_i_v _ _ _ _, a3.tr kf⟩
end TRAY2
