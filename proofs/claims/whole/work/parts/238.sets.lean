theorem zfo_none {R : Type} {f : Nat → Option R} : ∀ (k i : Nat), zfo f k i = none ↔ ∀ j, i ≤ j → j < i + k → f j = none := by
  intro k
  induction k with
  | zero => intro i; exact ⟨fun _ j h1 h2 => by omega, fun _ => rfl⟩
  | succ k ih =>
    intro i
    rw [zfo]
    cases hf : f i with
    | some r => exact ⟨fun z => (by cases z), fun h => by rw [h i (Nat.le_refl _) (by omega)] at hf; cases hf⟩
    | none =>
      refine ⟨fun h j h1 h2 => ?_, fun h => (ih (i + 1)).mpr (fun j h1 h2 => h j (by omega) (by omega))⟩
      by_cases e : j = i
      · rw [e]; exact hf
      · exact (ih (i + 1)).mp h j (by omega) (by omega)
theorem zfo_some {R : Type} {f : Nat → Option R} {a : R} : ∀ (k i : Nat), zfo f k i = some a → ∃ j, i ≤ j ∧ j < i + k ∧ f j = some a ∧ ∀ l, i ≤ l → l < j → f l = none := by
  intro k
  induction k with
  | zero => intro i h; cases h
  | succ k ih =>
    intro i h
    rw [zfo] at h
    cases hf : f i with
    | some r =>
      rw [hf] at h
      exact ⟨i, Nat.le_refl _, by omega, by rw [hf]; exact h, fun l h1 h2 => by omega⟩
    | none =>
      rw [hf] at h
      obtain ⟨j, h1, h2, h3, h4⟩ := ih (i + 1) h
      refine ⟨j, by omega, by omega, h3, fun l l1 l2 => ?_⟩
      by_cases e : l = i
      · rw [e]; exact hf
      · exact h4 l (by omega) l2
/-- a search that keeps a world -/
theorem zss {R T : Type} (O : Nat → Nat → zS → R) (lo N : Nat) (I : zS → Prop) (f : Nat → Option T) (Rf : T → zS → R) (E : zS → R)
    (hs : ∀ q i s, lo ≤ i → i < N → I s → (f i = none ∧ ∃ s', O (q + 1) i s = O q (i + 1) s' ∧ I s') ∨ ∃ a s', f i = some a ∧ O (q + 1) i s = Rf a s' ∧ I s')
    (hx : ∀ q s, I s → ∃ s', O (q + 1) N s = E s' ∧ I s') : ∀ (k i q : Nat) (s : zS), lo ≤ i → i + k = N → k < q → I s → ∃ s', I s' ∧ O q i s = ((zfo f k i).map (fun a => Rf a s')).getD (E s') := by
  intro k
  induction k with
  | zero =>
    intro i q s hl hi hq h
    obtain ⟨q, rfl⟩ : ∃ r, q = r + 1 := ⟨q - 1, by omega⟩
    have e : i = N := by omega
    subst e
    obtain ⟨s', g1, g2⟩ := hx q s h
    exact ⟨s', g2, g1⟩
  | succ k ih =>
    intro i q s hl hi hq h
    obtain ⟨q, rfl⟩ : ∃ r, q = r + 1 := ⟨q - 1, by omega⟩
    rcases hs q i s hl (by omega) h with ⟨h1, s', h2, h3⟩ | ⟨a, s', h1, h2, h3⟩
    · obtain ⟨s2, g1, g2⟩ := ih (i + 1) q s' (by omega) (by omega) (by omega) h3
      refine ⟨s2, g1, ?_⟩
      rw [h2, g2, zfo, h1]
    · refine ⟨s', h3, ?_⟩
      rw [h2, zfo, h1]
      rfl
theorem bt_neg {x : Int32} (h : x < 0) : bt x 31 = true := by
  have h1 : x.toBitVec.toInt < 0 := Int32.lt_iff_toInt_lt.mp h
  have h2 : x.toBitVec.msb = true := by rw [BitVec.msb_eq_toInt]; exact decide_eq_true h1
  rw [BitVec.msb_eq_getLsbD_last] at h2
  exact h2
section SETS
variable {n : Nat} {G M H D A B : Nat → Nat} {c0 c1 : List Nat} {s : zS}
theorem set_cases (hN : JNx s n G M H D c0 c1) (x : Int32) : (f_X5_hasAll_3 x s = some (0, s) ∧ (∀ t, JNx t n G M H D c0 c1 → f_X8_isSet x t = some (0, t)) ∧ ¬ x = 0) ∨ ∃ m, m < 2 ^ n ∧ x = nI m ∧ f_X5_hasAll_3 x s = some (1, s) ∧ ∀ t, JNx t n G M H D c0 c1 → f_X8_isSet x t = some (1, t) := by
  have hn := hN.1.1
  have h128 := pow_128 hn
  have h2p := Nat.two_pow_pos n
  unfold f_X5_hasAll_3 f_X5_hasAll_3_16 f_X8_isSet f_X8_isSet_20 f_X8_isSet_21
  rw [all7 hN, zbd_some]
  have hbit : ∀ i, i < 32 → bt (x &&& (nI (2 ^ n - 1) ^^^ -1)) i = (bt x i && !decide (i < n)) := fun i hi => by
    rw [b_and, b_xor, b_m1 i hi, bt_nI, Nat.testBit_two_pow_sub_one]
    simp [hi]
  have e3 : ∀ t, JNx t n G M H D c0 c1 → zr_i t 77 (1 : Int32) = some (nI n) := fun t ht => by rw [r77_1, ht.1.2.1]
  rcases i_cases x (2 ^ n) (by omega) with ⟨h, -⟩ | ⟨h0, h⟩ | ⟨m, hm, rfl⟩
  · refine Or.inl ⟨?_, fun t _ => ?_, fun z => by rw [z] at h; exact absurd h (by decide)⟩
    · rw [if_pos (fun z => by
        have := hbit 31 (by decide)
        rw [z, b_0, bt_neg h, decide_eq_false (by omega)] at this
        cases this)]; rfl
    · rw [if_pos h]; rfl
  · obtain ⟨j, hj, rfl⟩ := nI_of h0
    have hj2 : 2 ^ n ≤ j := (nI_leI (by omega) hj).mp h
    refine Or.inl ⟨?_, fun t ht => ?_, nI_ne0 (by omega) hj⟩
    · rw [if_pos (fun z => by
        have : j = j % 2 ^ n := Nat.eq_of_testBit_eq (fun i => by
          rw [Nat.testBit_mod_two_pow]
          by_cases hi : i < n
          · simp [hi]
          · by_cases h32 : i < 32
            · have := hbit i h32
              rw [z, b_0, bt_nI, decide_eq_false hi] at this
              simp [h32] at this
              simp [hi, this]
            · rw [Nat.testBit_lt_two_pow (Nat.lt_of_lt_of_le hj (Nat.pow_le_pow_right (by decide) (by omega)))]
              simp [hi])
        have := Nat.mod_lt j h2p
        omega)]; rfl
    · rw [if_neg h0, e3 t ht, Option.bind_some, one_shl n (by omega), if_pos h]; rfl
  · refine Or.inr ⟨m, hm, rfl, ?_, fun t ht => ?_⟩
    · rw [if_neg (fun z => z (b_ext (fun i hi => by
        rw [hbit i hi, b_0, bt_nI]
        by_cases h : i < n
        · simp [h]
        · rw [Nat.testBit_lt_two_pow (Nat.lt_of_lt_of_le hm (Nat.pow_le_pow_right (by decide) (by omega)))]
          simp)))]; rfl
    · rw [if_neg (nI_pos (by omega)), e3 t ht, Option.bind_some, one_shl n (by omega), if_neg (nI_ge hm (by omega))]; rfl
theorem q_fits (hN : JNx s n G M H D c0 c1) (hK : JK s n G M H c0 c1 A B) (a : Int32) : QR (f_X7_fits a) (f_X8_fits a) s n G M H c0 c1 A B := by
  have hn := hN.1.1
  have h128 := pow_128 hn
  rcases set_cases hN a with ⟨h1, h2, -⟩ | ⟨m, hm, rfl, h1, h2⟩
  · refine QR.no hK (-3) ?_ ?_
    · rw [f_X7_fits, h1, zbd_some, if_pos rfl]; rfl
    · rw [f_X8_fits, zb_eq]
      split
      · rfl
      · rw [h2 _ hN.th, zbd_some, if_neg (fun z => z rfl)]; rfl
  · by_cases h0 : m = 0
    · subst h0
      refine QR.no hK (-3) ?_ ?_
      · rw [f_X7_fits, h1, zbd_some, if_neg (by decide), if_neg (fun z => z rfl)]; rfl
      · rw [f_X8_fits, zb_eq, if_pos (by decide)]; rfl
    · obtain ⟨s1, a1, a2, a3⟩ := fitting7 hK.1 (m := m) (by omega) hm
      have hN1 : JNx s1 n G M H D c0 c1 := hN.keep a3 (by decide)
      obtain ⟨s2, b1, b2⟩ := fset8 hN1.th.m hm
      refine ⟨if zfs n G c0 m then 1 else 0, s1, s2, ?_, ?_, hK.r a2 a3, a3.mono (by decide), zk_m.th.tr (b2.mono (by decide)), by rw [(b2.1 93 (by decide)).1, zs_i_n _ _ _ _ _ (by decide)]⟩
      · rw [f_X7_fits, h1, zbd_some, if_neg (by decide), if_pos (nI_ne0 (by omega) (by omega)), a1, zbd_some]
        cases zfs n G c0 m <;> rfl
      · rw [f_X8_fits, zb_eq, if_neg (show ¬ nI m < (1 : Int32) from nlt_c 1 rfl (by omega) (by omega)), h2 _ hN1.th, zbd_some, if_pos (by decide), b1, zbd_some]
        cases zfs n G c0 m <;> rfl
/-- which sets fit, of the reference -/
def ZFT (s : zS) (n : Nat) (G : Nat → Nat) (c0 : List Nat) : Prop := ∀ m, 1 ≤ m → m < 2 ^ n → s.1 94 m = if zfs n G c0 m then 1 else 0
theorem fitsall8 {t : zS} (hZ : ZM t n G M c0 c1) : ∃ t', f_X8_laysFits t = some ((), t') ∧ ZFT t' n G c0 ∧ zk_m [81, 82, 83, 84, 85, 86, 94] t t' := by
  have hn := hZ.1
  have h128 := pow_128 hn
  have h2p := Nat.two_pow_pos n
  obtain ⟨q', u, g1, g2, g3⟩ := zlp (fun q m u => f_X8_laysFits_2 q (nI m) u) (2 ^ n) (fun m u => zk_m [81, 82, 83, 84, 85, 86, 94] t u ∧ ∀ j, 1 ≤ j → j < m → u.1 94 j = if zfs n G c0 j then 1 else 0)
    (fun q m u hm h => by
      show ∃ a', f_X8_laysFits_2 (q + 1) (nI m) u = f_X8_laysFits_2 q (nI (m + 1)) a' ∧ _
      have hZ1 := hZ.keep h.1.1 (by decide)
      obtain ⟨u2, b1, b2⟩ := fset8 hZ1 hm
      rw [f_X8_laysFits_2, r77_1, hZ1.2.1, Option.bind_some, one_shl n (by omega), if_neg (nI_ge hm (by omega)), b1, zbd_some, wr_94 u2 m rfl (by omega), Option.bind_some, nar01, zb_eq, nI_1]
      refine ⟨_, rfl, (h.1.tr (b2.mono (by simp))).i (by simp) (by decide), fun j h1 h2 => ?_⟩
      by_cases e : j = m
      · subst e; rw [zs_i_v]
      · rw [zs_i_o _ _ _ _ _ e, (b2.1 94 (by decide)).1]; exact h.2 j h1 (by omega)) (2 ^ n - 1) 1 zFU t (by omega) (by show 2 ^ n - 1 < 5000; omega) ⟨zk_m.rf, fun j h1 h2 => by omega⟩
  have g1' : f_X8_laysFits t = f_X8_laysFits_2 (q' + 1) (nI (2 ^ n)) u := g1
  rw [g1', f_X8_laysFits_2, r77_1, (hZ.keep g2.1 (by decide)).2.1, Option.bind_some, one_shl n (by omega), if_pos (nI_le (Nat.le_refl _) (by omega))]
  exact ⟨u, rfl, fun m h1 h2 => g3 m h1 h2, g2⟩
theorem zpc_pos : ∀ m, m < 128 → 1 ≤ m → 1 ≤ zpc 9 m := by decide +kernel
theorem zfs_4 (hn : n ≤ 7) {m : Nat} (hm : m < 2 ^ n) (h : zfs n G c0 m = true) : zpc 9 m ≤ 4 := by
  unfold zfs at h
  simp only [Bool.and_eq_true, decide_eq_true_eq] at h
  rw [(zpc_n hn hm).2]
  exact h.1
/-- the set of most people that fits, the least -/
def zlg (n : Nat) (G : Nat → Nat) (c0 : List Nat) (k : Nat) : Option Nat := zfo (fun m => if decide (zpc 9 m = k) && zfs n G c0 m then some m else none) (2 ^ n - 1) 1
def LG (n : Nat) (G : Nat → Nat) (c0 : List Nat) (r : Nat) : Prop := (r = 0 ∧ ∀ m, 1 ≤ m → m < 2 ^ n → zfs n G c0 m = false) ∨ (1 ≤ r ∧ r < 2 ^ n ∧ zfs n G c0 r = true ∧ ∀ m, 1 ≤ m → m < 2 ^ n → zfs n G c0 m = true → zpc 9 m ≤ zpc 9 r ∧ (m < r → zpc 9 m < zpc 9 r))
theorem LG.uni {r r2 : Nat} (h1 : LG n G c0 r) (h2 : LG n G c0 r2) : r = r2 := by
  rcases h1 with ⟨h1, h1'⟩ | ⟨a1, a2, a3, a4⟩
  · rcases h2 with ⟨h2, -⟩ | ⟨b1, b2, b3, b4⟩
    · omega
    · rw [h1' r2 b1 b2] at b3; cases b3
  · rcases h2 with ⟨h2, h2'⟩ | ⟨b1, b2, b3, b4⟩
    · rw [h2' r a1 a2] at a3; cases a3
    · have x1 := a4 r2 b1 b2 b3
      have x2 := b4 r a1 a2 a3
      omega
theorem q_largest (hN : JNx s n G M H D c0 c1) (hK : JK s n G M H c0 c1 A B) : QR f_X7_largest f_X8_largest s n G M H c0 c1 A B := by
  have hn := hN.1.1
  have h128 := pow_128 hn
  have h2p := Nat.two_pow_pos n
  -- the class
  have inner : ∀ (kb : Int32 → zS → Option (Int32 × zS)) (k : Nat) (t : zS), 1 ≤ k → k ≤ 4 → (JR t n G M c0 c1 A B ∧ zk_k RC s t) → ∃ t', (JR t' n G M c0 c1 A B ∧ zk_k RC s t') ∧ f_X7_largest_9 kb zFU (nI k) 1 t = ((zlg n G c0 k).map (fun a => some (nI a, t'))).getD (kb (nI (k - 1)) t') := fun kb k t hk1 hk4 ht => by
    refine zss (fun q m t => f_X7_largest_9 kb q (nI k) (nI m) t) 1 (2 ^ n) (fun t => JR t n G M c0 c1 A B ∧ zk_k RC s t) (fun m => if decide (zpc 9 m = k) && zfs n G c0 m then some m else none) (fun a t => some (nI a, t)) (fun t => kb (nI (k - 1)) t) (fun q m t hl hm h => ?_) (fun q t h => ?_) (2 ^ n - 1) 1 zFU t (Nat.le_refl _) (by omega) (by show 2 ^ n - 1 < 5000; omega) ht
    · have hz := zpc_le 9 m
      have e9 : f_X7_largest_9 kb (q + 1) (nI k) (nI m) t = (if ¬ nI (zpc 9 m) = nI k then f_X7_largest_41 kb (f_X7_largest_9 kb q) (nI k) (nI m) t else zbd (f_X4_isFitting (nI m) t) fun r7 s8 => if r7 = 0 then f_X7_largest_41 kb (f_X7_largest_9 kb q) (nI k) (nI m) s8 else some (nI m, s8)) := by
        rw [f_X7_largest_9, allK h.1.1.1, zbd_some, if_neg (nI_nlt (by omega) (by omega)), bc_ok t (by omega), zbd_some]
      by_cases e : zpc 9 m = k
      · obtain ⟨t2, a1, a2, a3⟩ := fitting7 h.1 (m := m) hl hm
        rw [if_neg (fun z => z (by rw [e])), a1, zbd_some] at e9
        by_cases hf : zfs n G c0 m = true
        · rw [if_pos hf, if_neg (by decide)] at e9
          exact Or.inr ⟨m, t2, by simp [e, hf], e9, a2, h.2.tr a3⟩
        · rw [if_neg hf, if_pos rfl, f_X7_largest_41, zb_eq, nI_1] at e9
          exact Or.inl ⟨by simp [hf], t2, e9, a2, h.2.tr a3⟩
      · rw [if_pos (ne_of_nI e (by omega) (by omega)), f_X7_largest_41, zb_eq, nI_1] at e9
        exact Or.inl ⟨by simp [e], t, e9, h⟩
    · show ∃ s', f_X7_largest_9 kb (q + 1) (nI k) (nI (2 ^ n)) t = _ ∧ _
      rw [f_X7_largest_9, allK h.1.1.1, zbd_some, if_pos (nI_lt (by omega) (by omega)), zb_eq]
      obtain ⟨k, rfl⟩ : ∃ j, k = j + 1 := ⟨k - 1, by omega⟩
      rw [pk_m1]
      exact ⟨t, rfl, h⟩
  have outer : ∀ (k f : Nat) (t : zS), k ≤ 4 → k < f → (JR t n G M c0 c1 A B ∧ zk_k RC s t) → (∀ m, 1 ≤ m → m < 2 ^ n → k < zpc 9 m → zfs n G c0 m = false) → ∃ r t', f_X7_largest_2 f (nI k) t = some (nI r, t') ∧ LG n G c0 r ∧ JR t' n G M c0 c1 A B ∧ zk_k RC s t' := by
    intro k
    induction k with
    | zero =>
      intro f t hk hf ht hno
      obtain ⟨f, rfl⟩ : ∃ r, f = r + 1 := ⟨f - 1, by omega⟩
      refine ⟨0, t, ?_, Or.inl ⟨rfl, fun m h1 h2 => hno m h1 h2 (zpc_pos m (by omega) h1)⟩, ht⟩
      rw [f_X7_largest_2, if_pos (by decide)]; rfl
    | succ k ih =>
      intro f t hk hf ht hno
      obtain ⟨f, rfl⟩ : ∃ r, f = r + 1 := ⟨f - 1, by omega⟩
      obtain ⟨t', g1, g2⟩ := inner (f_X7_largest_2 f) (k + 1) t (by omega) hk ht
      rw [f_X7_largest_2, if_neg (show ¬ nI (k + 1) < (1 : Int32) from nlt_c 1 rfl (by omega) (by omega)), g2]
      cases hz : zlg n G c0 (k + 1) with
      | some a =>
        obtain ⟨j, j1, j2, j3, j4⟩ := zfo_some _ _ hz
        have ej : (zpc 9 j = k + 1 ∧ zfs n G c0 j = true) ∧ j = a := by
          by_cases hc : (decide (zpc 9 j = k + 1) && zfs n G c0 j) = true
          · rw [if_pos hc] at j3
            simp only [Bool.and_eq_true, decide_eq_true_eq] at hc
            exact ⟨hc, by cases j3; rfl⟩
          · rw [if_neg hc] at j3; cases j3
        obtain ⟨⟨e1, e2⟩, rfl⟩ := ej
        refine ⟨j, t', rfl, Or.inr ⟨j1, by omega, e2, fun m h1 h2 h3 => ?_⟩, g1⟩
        have hle : zpc 9 m ≤ k + 1 := by
          refine Nat.le_of_not_lt (fun h => ?_)
          rw [hno m h1 h2 h] at h3; cases h3
        refine ⟨by omega, fun hlt => ?_⟩
        have := j4 m h1 hlt
        by_cases e : zpc 9 m = k + 1
        · rw [if_pos (by simp [e, h3])] at this; cases this
        · omega
      | none =>
        have hz' := (zfo_none _ _).mp hz
        obtain ⟨r, t2, b1, b2⟩ := ih f t' (by omega) (by omega) g1 (fun m h1 h2 h3 => by
          by_cases e : zpc 9 m = k + 1
          · have := hz' m h1 (by omega)
            cases hf : zfs n G c0 m with
            | false => rfl
            | true => rw [if_pos (by simp [e, hf])] at this; cases this
          · exact hno m h1 h2 (by omega))
        exact ⟨r, t2, b1, b2⟩
  obtain ⟨r, s1, a1, a2, a3, a4⟩ := outer 4 zFU s (Nat.le_refl _) (by decide) ⟨hK.1, zk_k.rf⟩ (fun m h1 h2 h3 => by
    cases hf : zfs n G c0 m with
    | false => rfl
    | true => have := zfs_4 hn h2 hf; omega)
  have hN1 : JNx s1 n G M H D c0 c1 := hN.keep a4 (by decide)
  obtain ⟨s2, b1, b2, b3⟩ := fitsall8 hN1.th.m
  have e3 : zr_i s2 77 (1 : Int32) = some (nI n) := by rw [r77_1, (b3.1 77 (by decide)).1, zs_i_n _ _ _ _ _ (by decide), hN1.1.2.1]
  have K := loop_fold2 (fun q m b => f_X8_largest_13 q (nI b) (nI m) s2) 1 (2 ^ n) (fun m b => if zfs n G c0 m && decide (zpc 9 b < zpc 9 m) then m else b) (fun b => some (nI b, s2)) (fun M b => b < M ∧ ((b = 0 ∧ ∀ m, 1 ≤ m → m < M → zfs n G c0 m = false) ∨ (1 ≤ b ∧ b < 2 ^ n ∧ zfs n G c0 b = true ∧ ∀ m, 1 ≤ m → m < M → zfs n G c0 m = true → zpc 9 m ≤ zpc 9 b ∧ (m < b → zpc 9 m < zpc 9 b))))
    (fun q m b hl hm hb => by
      have z1 := zpc_le 9 m
      have z2 := zpc_le 9 b
      constructor
      · show f_X8_largest_13 (q + 1) (nI b) (nI m) s2 = _
        rw [f_X8_largest_13, e3, Option.bind_some, one_shl n (by omega), if_neg (nI_ge hm (by omega)), rd_94 s2 m rfl (by omega), Option.bind_some, b2 m hl hm]
        by_cases hf : zfs n G c0 m = true
        · rw [if_pos hf, if_neg (by decide), bits_512 (by omega), zbd_some, bits_512 (by omega), zbd_some]
          by_cases hc : zpc 9 b < zpc 9 m
          · rw [if_neg (nI_ge hc (by omega)), f_X8_largest_47, zb_eq, nI_1]
            simp [hf, hc]
          · rw [if_pos (nI_le (by omega) (by omega)), f_X8_largest_47, zb_eq, nI_1]
            simp [hc]
        · rw [if_neg hf, if_pos rfl, f_X8_largest_47, zb_eq, nI_1]
          simp [hf]
      · show (if (zfs n G c0 m && decide (zpc 9 b < zpc 9 m)) = true then m else b) < m + 1 ∧ _
        by_cases hc : (zfs n G c0 m && decide (zpc 9 b < zpc 9 m)) = true
        · simp only [hc, if_true]
          simp only [Bool.and_eq_true, decide_eq_true_eq] at hc
          refine ⟨by omega, Or.inr ⟨hl, hm, hc.1, fun j h1 h2 h3 => ?_⟩⟩
          by_cases e : j = m
          · subst e; exact ⟨Nat.le_refl _, fun z => by omega⟩
          · rcases hb.2 with ⟨-, h0⟩ | ⟨-, -, -, h0⟩
            · rw [h0 j h1 (by omega)] at h3; cases h3
            · have := h0 j h1 (by omega) h3
              omega
        · rw [if_neg hc]
          simp only [Bool.and_eq_true, decide_eq_true_eq, not_and] at hc
          refine ⟨by show b < m + 1; omega, ?_⟩
          rcases hb.2 with ⟨h00, h0⟩ | ⟨p1, p2, p3, h0⟩
          · refine Or.inl ⟨h00, fun j h1 h2 => ?_⟩
            by_cases e : j = m
            · subst e
              cases hf : zfs n G c0 j with
              | false => rfl
              | true =>
                have := hc hf
                have := zpc_pos j (by omega) hl
                rw [h00] at *
                have : zpc 9 0 = 0 := by decide
                omega
            · exact h0 j h1 (by omega)
          · refine Or.inr ⟨p1, p2, p3, fun j h1 h2 h3 => ?_⟩
            by_cases e : j = m
            · subst e
              have := hc h3
              exact ⟨by omega, fun z => by omega⟩
            · exact h0 j h1 (by omega) h3) (fun q b _ => by
      show f_X8_largest_13 (q + 1) (nI b) (nI (2 ^ n)) s2 = _
      rw [f_X8_largest_13, e3, Option.bind_some, one_shl n (by omega), if_pos (nI_le (Nat.le_refl _) (by omega))]) (2 ^ n - 1) 1 zFU 0 (Nat.le_refl _) (by omega) (by show 2 ^ n - 1 < 5000; omega) ⟨by decide, Or.inl ⟨rfl, fun m h1 h2 => by omega⟩⟩
  have hr : r = zfd (fun m b => if zfs n G c0 m && decide (zpc 9 b < zpc 9 m) then m else b) (2 ^ n - 1) 1 0 := a2.uni K.2.2
  have K1 : f_X8_largest_13 zFU 0 1 s2 = some (nI r, s2) := by rw [hr]; exact K.1
  refine ⟨nI r, s1, s2, a1, ?_, hK.r a3 a4, a4.mono (by decide), zk_m.th.tr (b3.mono (by decide)), by rw [(b3.1 93 (by decide)).1, zs_i_n _ _ _ _ _ (by decide)]⟩
  rw [f_X8_largest, zb_eq, b1, zbd_some, K1]
end SETS
