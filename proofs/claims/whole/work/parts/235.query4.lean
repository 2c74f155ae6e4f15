theorem mod_half {a b : Nat} (hb : 0 < b) (h : b ≤ a) : 2 * (a % b) < a := by
  have h1 := Nat.mod_lt a hb
  have h2 := Nat.mod_add_div a b
  have h3 : 1 ≤ a / b := (Nat.le_div_iff_mul_le hb).mpr (by omega)
  have h4 : b * 1 ≤ b * (a / b) := Nat.mul_le_mul_left b h3
  omega
theorem gcd_step (a b : Nat) : Nat.gcd a b = Nat.gcd b (a % b) := by
  rw [Nat.gcd_comm a b, Nat.gcd_rec b a, Nat.gcd_comm]
theorem com8 (s : zS) : ∀ (k a b d : Nat), b < 2 ^ k → 2 * k < d → a < 2 ^ 31 → k ≤ 30 → f_X8_common d (nI a) (nI b) s = some (nI (Nat.gcd a b), s) := by
  intro k
  induction k with
  | zero =>
    intro a b d hb hd ha _
    obtain ⟨d, rfl⟩ : ∃ r, d = r + 1 := ⟨d - 1, by omega⟩
    have e : b = 0 := by simp at hb; exact hb
    subst e
    rw [f_X8_common, g_X8_common, if_neg (fun z => z rfl), Nat.gcd_zero_right]
    rfl
  | succ k ih =>
    intro a b d hb hd ha hk
    obtain ⟨d, rfl⟩ : ∃ r, d = r + 2 := ⟨d - 2, by omega⟩
    have hb31 : 2 ^ (k + 1) ≤ 2 ^ 30 := Nat.pow_le_pow_right (by decide) hk
    by_cases e : b = 0
    · subst e
      rw [f_X8_common, g_X8_common, if_neg (fun z => z rfl), Nat.gcd_zero_right]
      rfl
    · have h1 := Nat.mod_lt a (Nat.pos_of_ne_zero e)
      rw [f_X8_common, g_X8_common, if_pos (nI_ne0 (by omega) (by omega)), if_neg (nI_ne0 (by omega) (by omega)), show zo_rem (nI a) (nI b) = nI (a % b) from pk_rem ha (by omega) (by omega), f_X8_common, g_X8_common, gcd_step a b]
      by_cases e2 : a % b = 0
      · rw [e2, if_neg (fun z => z rfl), f_X8_common_15, zbd_some, f_X8_common_15, Nat.gcd_zero_right]
      · have h2 := mod_half (a := b) (b := a % b) (by omega) (by omega)
        rw [if_pos (nI_ne0 (by omega) (by omega)), if_neg (nI_ne0 (by omega) (by omega)), show zo_rem (nI b) (nI (a % b)) = nI (b % (a % b)) from pk_rem (by omega) (by omega) (by omega), ih (a % b) (b % (a % b)) d (by rw [Nat.pow_succ] at hb; omega) (by omega) (by omega) (by omega), zbd_some, f_X8_common_15, zbd_some, f_X8_common_15, ← gcd_step b (a % b)]
theorem low7 (s : zS) (v0 v1 v2 : Int32) : ∀ (k a b i f : Nat), b < 2 ^ k → i + 2 * k ≤ 64 → 2 * k < f → a < 2 ^ 31 → k ≤ 30 → f_X7_lowestTerm_8 f v0 v1 v2 (nI a) (nI b) (nI i) s = f_X7_lowestTerm_39 v0 v1 v2 (nI (Nat.gcd a b)) s := by
  intro k
  induction k with
  | zero =>
    intro a b i f hb hi hf ha _
    obtain ⟨f, rfl⟩ : ∃ r, f = r + 1 := ⟨f - 1, by omega⟩
    have e : b = 0 := by simp at hb; exact hb
    subst e
    rw [f_X7_lowestTerm_8, Nat.gcd_zero_right, if_pos (show nI 0 = 0 from rfl)]
    split <;> rfl
  | succ k ih =>
    intro a b i f hb hi hf ha hk
    obtain ⟨f, rfl⟩ : ∃ r, f = r + 2 := ⟨f - 2, by omega⟩
    have hb31 : 2 ^ (k + 1) ≤ 2 ^ 30 := Nat.pow_le_pow_right (by decide) hk
    by_cases e : b = 0
    · subst e
      rw [f_X7_lowestTerm_8, Nat.gcd_zero_right, if_pos (show nI 0 = 0 from rfl)]
      split <;> rfl
    · have h1 := Nat.mod_lt a (Nat.pos_of_ne_zero e)
      rw [f_X7_lowestTerm_8, if_neg (nI_ge (by omega) (by omega)), if_neg (nI_ne0 (by omega) (by omega)), if_neg (nI_ne0 (by omega) (by omega)), zb_eq, zb_eq, show zo_rem (nI a) (nI b) = nI (a % b) from pk_rem ha (by omega) (by omega), nI_1, f_X7_lowestTerm_8, gcd_step a b, if_neg (nI_ge (by omega) (by omega))]
      by_cases e2 : a % b = 0
      · rw [e2, if_pos (show nI 0 = 0 from rfl), Nat.gcd_zero_right]
      · have h2 := mod_half (a := b) (b := a % b) (by omega) (by omega)
        rw [if_neg (nI_ne0 (by omega) (by omega)), if_neg (nI_ne0 (by omega) (by omega)), zb_eq, zb_eq, show zo_rem (nI b) (nI (a % b)) = nI (b % (a % b)) from pk_rem (by omega) (by omega) (by omega), nI_1, ih (a % b) (b % (a % b)) (i + 1 + 1) f (by rw [Nat.pow_succ] at hb; omega) (by omega) (by omega) (by omega) (by omega), ← gcd_step b (a % b)]
/-- a fraction in lowest terms, of both -/
theorem frac {a b : Nat} (s t : zS) (v : Int32) (ha : a < 2 ^ 31) (hb0 : 0 < b) (hb : b < 2 ^ 24) : ∃ r, f_X7_lowestTerm (nI a) (nI b) v s = some (r, s) ∧ f_X8_part1 (nI a) (nI b) v t = some (r, t) := by
  have hg : 0 < Nat.gcd a b := Nat.gcd_pos_of_pos_right a hb0
  have hg2 : Nat.gcd a b ≤ b := Nat.le_of_dvd hb0 (Nat.gcd_dvd_right a b)
  have e7 : f_X7_lowestTerm (nI a) (nI b) v s = f_X7_lowestTerm_39 (nI a) (nI b) v (nI (Nat.gcd a b)) s := low7 s (nI a) (nI b) v 24 a b 0 zFU hb (by decide) (by decide) ha (by decide)
  have e8 := com8 t 24 a b zDP hb (by decide) ha (by decide)
  rw [e7]
  unfold f_X7_lowestTerm_39 f_X7_lowestTerm_58 f_X8_part1 f_X8_part1_9
  have hg0 : ¬ nI (Nat.gcd a b) = 0 := nI_ne0 hg (by omega)
  rw [e8]
  simp only [zbd_some, hg0, if_false, not_false_eq_true, if_true]
  by_cases hv : v = 0
  · rw [if_neg (fun z => z hv), if_neg (fun z => z hv)]; exact ⟨_, rfl, rfl⟩
  · rw [if_pos hv, if_pos hv]; exact ⟨_, rfl, rfl⟩
theorem zsum_opt (x : Option Nat) (W : Nat) : ∀ k, (zsum k (fun q => if x = some q then W else 0) = 0 ∧ ∀ r, r < k → x ≠ some r) ∨ (zsum k (fun q => if x = some q then W else 0) = W ∧ ∃ r, r < k ∧ x = some r) := by
  intro k
  induction k with
  | zero => exact Or.inl ⟨rfl, fun r hr => by omega⟩
  | succ k ih =>
    show (zsum k (fun q => if x = some q then W else 0) + (if x = some k then W else 0) = 0 ∧ _) ∨ (zsum k (fun q => if x = some q then W else 0) + (if x = some k then W else 0) = W ∧ _)
    by_cases e : x = some k
    · rcases ih with ⟨h1, h2⟩ | ⟨h1, r, h2, h3⟩
      · exact Or.inr ⟨by rw [h1, if_pos e, Nat.zero_add], k, by omega, e⟩
      · rw [e] at h3; cases h3; omega
    · rcases ih with ⟨h1, h2⟩ | ⟨h1, r, h2, h3⟩
      · refine Or.inl ⟨by rw [h1, if_neg e], fun r hr => ?_⟩
        by_cases e2 : r = k
        · rw [e2]; exact e
        · exact h2 r (by omega)
      · exact Or.inr ⟨by rw [h1, if_neg e]; rfl, r, by omega, h3⟩
section QUERY4
variable {n : Nat} {G M H D A B : Nat → Nat} {c0 c1 : List Nat} {s : zS}
theorem ztg_sum (hn : n ≤ 7) (hH : ∀ p, p < n → H p ≤ 10) (p k : Nat) : zsum k (fun q => ztg n G M H c0 c1 p q (2 ^ n)) < 2 ^ 31 := by
  have h128 := pow_128 hn
  unfold ztg
  rw [zsum_swap (fun q S => if zfp n G M c0 c1 S p = some q then zwt H S n else 0)]
  have := zsum_le (f := fun S => zsum k (fun q => if zfp n G M c0 c1 S p = some q then zwt H S n else 0)) (k := 10000000) (2 ^ n) (fun S _ => by
    have h1 := zwt_7 (S := S) hn hH
    rcases zsum_opt (zfp n G M c0 c1 S p) (zwt H S n) k with ⟨e, -⟩ | ⟨e, -⟩
    · show zsum k _ ≤ _; rw [e]; omega
    · show zsum k _ ≤ _; rw [e]; exact h1)
  have h2 : 2 ^ n * 10000000 ≤ 128 * 10000000 := Nat.mul_le_mul_right _ h128
  exact Nat.lt_of_le_of_lt (Nat.le_trans this h2) (by decide)
theorem ztg_one (hn : n ≤ 7) (hH : ∀ p, p < n → H p ≤ 10) (p q : Nat) : ztg n G M H c0 c1 p q (2 ^ n) < 2 ^ 31 := by
  have := ztg_sum (G := G) (M := M) (c0 := c0) (c1 := c1) hn hH p (q + 1)
  have h2 : zsum (q + 1) (fun q => ztg n G M H c0 c1 p q (2 ^ n)) = zsum q (fun q => ztg n G M H c0 c1 p q (2 ^ n)) + ztg n G M H c0 c1 p q (2 ^ n) := rfl
  omega
theorem ztg_0 (p q g : Nat) (hq : n ≤ q) : ztg n G M H c0 c1 p q g = 0 := zsum_zero g (fun S _ => if_neg (fun z => by have := (zfp_v S p q z).2.1; omega))
theorem zsum_7 (f : Nat → Nat) (hn : n ≤ 7) (h0 : ∀ q, n ≤ q → f q = 0) : zsum 7 f = zsum n f := by
  have : ∀ j, zsum (n + j) f = zsum n f := by
    intro j
    induction j with
    | zero => rfl
    | succ j ih =>
      show zsum (n + j) f + f (n + j) = _
      rw [ih, h0 (n + j) (by omega), Nat.add_zero]
  have h := this (7 - n)
  rw [show n + (7 - n) = 7 by omega] at h
  exact h
theorem chance2 (hN : JNx s n G M H D c0 c1) (hK : JK s n G M H c0 c1 A B) {p : Nat} (hp : p < n) : ∃ s1 s2, f_X0_learnChances s = some ((), s1) ∧ f_X8_laysLikely (nI p) (zs_i s1 76 0 0) = some ((), s2) ∧ JNx s1 n G M H D c0 c1 ∧ JK s1 n G M H c0 c1 A B ∧ (∀ p q, p < n → q < n → s1.1 66 (7 * p + q) = nI (ztg n G M H c0 c1 p q (2 ^ n))) ∧ (∀ q, q < 7 → s2.1 96 q = nI (ztg n G M H c0 c1 p q (2 ^ n))) ∧ zk_k CC s s1 ∧ zk_m MC s1 s2 ∧ s2.1 93 0 = s1.1 93 0 ∧ s2.1 77 = s1.1 77 := by
  obtain ⟨s1, a1, a2, a3, a4⟩ := chancesK hK (fun p hp => ⟨(hN.2.1 p hp).2.2.1.2.1, (hN.2.1 p hp).2.2.1.2.2⟩)
  have hN1 := hN.c a4
  obtain ⟨s2, b1, b2, b3⟩ := likely8 (H := H) hN1.th.m (fun p hp => ⟨(hN1.th.2.1 p hp).2.2.1.1, (hN1.th.2.1 p hp).2.2.1.2.2⟩) hp
  exact ⟨s1, s2, a1, b1, hN1, a2, a3, b2, a4, zk_m.th.tr (b3.mono (by decide)), by rw [(b3.1 93 (by decide)).1, zs_i_n _ _ _ _ _ (by decide)], by rw [(b3.1 77 (by decide)).1, zs_i_n _ _ _ _ _ (by decide)]⟩
theorem q_chance (hN : JNx s n G M H D c0 c1) (hK : JK s n G M H c0 c1 A B) (a b : Int32) : QR (f_X7_chance a b) (f_X8_chance a b) s n G M H c0 c1 A B := by
  have hn := hN.1.1
  have hHb : ∀ p, p < n → H p ≤ 10 := fun p hp => (hN.2.1 p hp).2.2.1.2.2
  rcases per_cases hN a with ⟨h1, h2⟩ | ⟨p, hp, rfl⟩
  · refine QR.no hK (-2) ?_ ?_
    · rw [f_X7_chance, h1, zbd_some, if_pos rfl]; rfl
    · rw [f_X8_chance, zb_eq, h2 _ hN.th, zbd_some, if_pos rfl]; rfl
  have e7 := has_in hN hp
  rcases i_cases b 2 (by decide) with ⟨h, h'⟩ | ⟨h0, h⟩ | ⟨k, hk, rfl⟩
  · refine QR.no hK (-2) ?_ ?_
    · rw [f_X7_chance, e7, zbd_some, if_neg (by decide), if_pos h]; rfl
    · rw [f_X8_chance, zb_eq, per_in hN.th hp, zbd_some, if_neg (by decide), wi_neg _ h, zbd_some, if_neg (fun z => z rfl)]; rfl
  · refine QR.no hK (-2) ?_ ?_
    · rw [f_X7_chance, e7, zbd_some, if_neg (by decide), if_neg h0, if_neg (fun z => by
        have h1 := Int32.le_iff_toInt_le.mp h
        have h2 := Int32.le_iff_toInt_le.mp z
        rw [nI_toInt (by decide)] at h1
        have h3 : (1 : Int32).toInt = 1 := rfl
        omega)]; rfl
    · rw [f_X8_chance, zb_eq, per_in hN.th hp, zbd_some, if_neg (by decide), wi_big _ (m := 1) (by decide) rfl h, zbd_some, if_neg (fun z => z rfl)]; rfl
  obtain ⟨s1, s2, a1, b1, hN1, hK1, h66, h96, k1, k2, e93, e77⟩ := chance2 hN hK hp
  have h3 := hK1.1.1.1.2.1
  have e3 : zr_i s2 77 (1 : Int32) = some (nI n) := by rw [r77_1, e77, hN1.m.2.1]
  have h10 : 10 ^ n ≤ 10 ^ 7 := Nat.pow_le_pow_right (by decide) hn
  have h10p : 0 < 10 ^ n := Nat.pow_pos (by decide)
  obtain ⟨r, f7, f8⟩ := frac (a := zsum n (fun q => ztg n G M H c0 c1 p q (2 ^ n))) (b := 10 ^ n) s1 s2 (nI k) (ztg_sum hn hHb p n) h10p (by omega)
  refine ⟨r, s1, s2, ?_, ?_, hK1, k1, k2, e93⟩
  · obtain ⟨q', u, g1, -⟩ := zlp (fun q i (_ : Unit) => f_X7_chance_38 q (nI p) (nI k) (nI (zsum i (fun q => ztg n G M H c0 c1 p q (2 ^ n)))) (nI (10 ^ i)) (nI i) s1) n (fun _ _ => True) (fun q i _ hi _ => by
      refine ⟨(), ?_, trivial⟩
      show f_X7_chance_38 (q + 1) (nI p) (nI k) (nI (zsum i (fun q => ztg n G M H c0 c1 p q (2 ^ n)))) (nI (10 ^ i)) (nI i) s1 = f_X7_chance_38 q (nI p) (nI k) (nI (zsum i (fun q => ztg n G M H c0 c1 p q (2 ^ n)) + ztg n G M H c0 c1 p i (2 ^ n))) (nI (10 ^ (i + 1))) (nI (i + 1)) s1
      rw [f_X7_chance_38, h3, if_neg (nI_ge hi (by omega)), rd_66 s1 (7 * p + i) (by rw [pk_mul, nI_add, Nat.mul_comm]) (by omega), Option.bind_some, h66 p i hp hi, zb_eq, zb_eq, zb_eq, nI_add, pk_mul, nI_1, Nat.pow_succ]) n 0 zFU () (by omega) (by show n < 5000; omega) trivial
    have g1' : f_X7_chance_38 zFU (nI p) (nI k) 0 1 0 s1 = f_X7_chance_38 (q' + 1) (nI p) (nI k) (nI (zsum n (fun q => ztg n G M H c0 c1 p q (2 ^ n)))) (nI (10 ^ n)) (nI n) s1 := g1
    rw [f_X7_chance, e7, zbd_some, if_neg (by decide), if_neg (nI_pos (by omega)), if_pos (show nI k ≤ (1 : Int32) from le_c 1 rfl (by omega) (by decide)), a1, zbd_some, g1', f_X7_chance_38, h3, if_pos (nI_le (Nat.le_refl _) (by omega)), f7, zbd_some]
  · obtain ⟨q', u, g1, -⟩ := zlp (fun q i (_ : Unit) => f_X8_chance_37 q (nI k) (nI (zsum i (fun q => ztg n G M H c0 c1 p q (2 ^ n)))) (nI i) s2) 7 (fun _ _ => True) (fun q i _ hi _ => by
      refine ⟨(), ?_, trivial⟩
      show f_X8_chance_37 (q + 1) (nI k) (nI (zsum i (fun q => ztg n G M H c0 c1 p q (2 ^ n)))) (nI i) s2 = f_X8_chance_37 q (nI k) (nI (zsum i (fun q => ztg n G M H c0 c1 p q (2 ^ n)) + ztg n G M H c0 c1 p i (2 ^ n))) (nI (i + 1)) s2
      rw [f_X8_chance_37, if_neg (nI_ge hi (by omega)), rd_96 s2 i rfl hi, Option.bind_some, h96 i hi, zb_eq, zb_eq, nI_add, nI_1]) 7 0 zFU () (by omega) (by decide) trivial
    have g1' : f_X8_chance_37 zFU (nI k) 0 0 s2 = f_X8_chance_37 (q' + 1) (nI k) (nI (zsum 7 (fun q => ztg n G M H c0 c1 p q (2 ^ n)))) (nI 7) s2 := g1
    obtain ⟨q2, u2, d1, -⟩ := zlp (fun q i (_ : Unit) => f_X8_wholeOf_4 q (nI (10 ^ i)) (nI i) s2) n (fun _ _ => True) (fun q i _ hi _ => by
      refine ⟨(), ?_, trivial⟩
      show f_X8_wholeOf_4 (q + 1) (nI (10 ^ i)) (nI i) s2 = f_X8_wholeOf_4 q (nI (10 ^ (i + 1))) (nI (i + 1)) s2
      rw [f_X8_wholeOf_4, e3, Option.bind_some, if_neg (nI_ge hi (by omega)), zb_eq, zb_eq, pk_mul, nI_1, Nat.pow_succ]) n 0 zFU () (by omega) (by show n < 5000; omega) trivial
    have d1' : f_X8_wholeOf s2 = f_X8_wholeOf_4 (q2 + 1) (nI (10 ^ n)) (nI n) s2 := d1
    have hw : f_X8_wholeOf s2 = some (nI (10 ^ n), s2) := by rw [d1', f_X8_wholeOf_4, e3, Option.bind_some, if_pos (nI_le (Nat.le_refl _) (by omega))]
    rw [f_X8_chance, zb_eq, per_in hN1.th hp, zbd_some, if_neg (by decide), wi_in _ (m := 1) (by omega) (by decide) rfl, zbd_some, if_pos (by decide), b1, zbd_some, g1', f_X8_chance_37, if_pos (nI_le (Nat.le_refl _) (by omega)), hw, zbd_some, zsum_7 _ hn (fun q hq => ztg_0 p q _ hq), f8, zbd_some]
/-- the greatest, the first -/
def zval (T : Nat → Nat) : Option Nat → Nat
  | none => 0
  | some r => T r
def zbest (T : Nat → Nat) (q : Nat) (b : Option Nat) : Option Nat := if zval T b < T q then some q else b
theorem q_likeliest (hN : JNx s n G M H D c0 c1) (hK : JK s n G M H c0 c1 A B) (a : Int32) : QR (f_X7_likeliest a) (f_X8_likeliest a) s n G M H c0 c1 A B := by
  have hn := hN.1.1
  have hHb : ∀ p, p < n → H p ≤ 10 := fun p hp => (hN.2.1 p hp).2.2.1.2.2
  rcases per_cases hN a with ⟨h1, h2⟩ | ⟨p, hp, rfl⟩
  · refine QR.no hK (-2) ?_ ?_
    · rw [f_X7_likeliest, h1, zbd_some, if_neg (fun z => z rfl)]
    · rw [f_X8_likeliest, zb_eq, h2 _ hN.th, zbd_some, if_neg (fun z => z rfl)]
  obtain ⟨s1, s2, a1, b1, hN1, hK1, h66, h96, k1, k2, e93, e77⟩ := chance2 hN hK hp
  have h3 := hK1.1.1.1.2.1
  have e3 : zr_i s2 77 (1 : Int32) = some (nI n) := by rw [r77_1, e77, hN1.m.2.1]
  have hT : ∀ q, ztg n G M H c0 c1 p q (2 ^ n) < 2 ^ 31 := fun q => ztg_one hn hHb p q
  have h66' := fun q => h66 p q hp
  refine ⟨oI (zfd (zbest (fun q => ztg n G M H c0 c1 p q (2 ^ n))) n 0 none), s1, s2, ?_, ?_, hK1, k1, k2, e93⟩
  · have K := loop_fold (fun q i b => f_X7_likeliest_28 q (nI p) (oI b) (nI (zval (fun q => ztg n G M H c0 c1 p q (2 ^ n)) b)) (nI i) s1) n (zbest (fun q => ztg n G M H c0 c1 p q (2 ^ n))) (fun b => some (oI b, s1)) (fun _ _ => True) (fun q i b hi _ => by
      refine ⟨?_, trivial⟩
      show f_X7_likeliest_28 (q + 1) (nI p) (oI b) (nI (zval (fun q => ztg n G M H c0 c1 p q (2 ^ n)) b)) (nI i) s1 = _
      have hb : zval (fun q => ztg n G M H c0 c1 p q (2 ^ n)) b < 2 ^ 31 := by
        cases b with
        | none => show 0 < 2 ^ 31; decide
        | some r => exact hT r
      rw [f_X7_likeliest_28, h3, if_neg (nI_ge hi (by omega)), rd_66 s1 (7 * p + i) (by rw [pk_mul, nI_add, Nat.mul_comm]) (by omega), Option.bind_some, h66' i hi, zbest]
      by_cases hc : zval (fun q => ztg n G M H c0 c1 p q (2 ^ n)) b < ztg n G M H c0 c1 p i (2 ^ n)
      · rw [if_neg (nI_ge hc (hT i)), if_pos hc, f_X7_likeliest_69, zb_eq, nI_1]
        rfl
      · rw [if_pos (nI_le (by omega) hb), if_neg hc, f_X7_likeliest_69, zb_eq, nI_1]) (fun q b _ => by
      show f_X7_likeliest_28 (q + 1) (nI p) (oI b) _ (nI n) s1 = _
      rw [f_X7_likeliest_28, h3, if_pos (nI_le (Nat.le_refl _) (by omega))]) n 0 zFU none (by omega) (by show n < 5000; omega) trivial
    have K1 : f_X7_likeliest_28 zFU (nI p) (-1) 0 0 s1 = some (oI (zfd (zbest (fun q => ztg n G M H c0 c1 p q (2 ^ n))) n 0 none), s1) := K.1
    rw [f_X7_likeliest, has_in hN hp, zbd_some, if_pos (by decide), a1, zbd_some, K1]
  · have K := loop_fold (fun q i b => f_X8_likeliest_26 q (oI b) (nI i) s2) n (zbest (fun q => ztg n G M H c0 c1 p q (2 ^ n))) (fun b => some (oI b, s2)) (fun i b => ∀ r, b = some r → r < n) (fun q i b hi hbr => by
      constructor
      · show f_X8_likeliest_26 (q + 1) (oI b) (nI i) s2 = _
        have key : ∀ w0, w0 < 2 ^ 31 → zval (fun q => ztg n G M H c0 c1 p q (2 ^ n)) b = w0 → f_X8_likeliest_57 (f_X8_likeliest_26 q) (oI b) (nI i) (nI w0) (nI (ztg n G M H c0 c1 p i (2 ^ n))) s2 = f_X8_likeliest_26 q (oI (zbest (fun q => ztg n G M H c0 c1 p q (2 ^ n)) i b)) (nI (i + 1)) s2 := by
          intro w0 hw0 hm
          unfold f_X8_likeliest_57 f_X8_likeliest_62 zbest
          rw [hm]
          by_cases hc : w0 < ztg n G M H c0 c1 p i (2 ^ n)
          · rw [if_neg (nI_ge hc (hT i)), if_pos hc, zb_eq, nI_1]; rfl
          · rw [if_pos (nI_le (by omega) hw0), if_neg hc, zb_eq, nI_1]
        rw [f_X8_likeliest_26, e3, Option.bind_some, if_neg (nI_ge hi (by omega)), rd_96 s2 i rfl (by omega), Option.bind_some, h96 i (by omega)]
        cases b with
        | none =>
          rw [show oI none = (-1 : Int32) from rfl, if_neg (fun z => z rfl)]
          exact key 0 (by decide) rfl
        | some r =>
          have := hbr r rfl
          rw [show oI (some r) = nI r from rfl, if_pos (ne_m1 (by omega)), rd_96 s2 r rfl (by omega), Option.bind_some, h96 r (by omega)]
          exact key _ (hT r) rfl
      · intro r hr
        unfold zbest at hr
        split at hr
        · cases hr; exact hi
        · exact hbr r hr) (fun q b _ => by
      show f_X8_likeliest_26 (q + 1) (oI b) (nI n) s2 = _
      rw [f_X8_likeliest_26, e3, Option.bind_some, if_pos (nI_le (Nat.le_refl _) (by omega))]) n 0 zFU none (by omega) (by show n < 5000; omega) (fun r hr => by cases hr)
    have K1 : f_X8_likeliest_26 zFU (-1) 0 s2 = some (oI (zfd (zbest (fun q => ztg n G M H c0 c1 p q (2 ^ n))) n 0 none), s2) := K.1
    rw [f_X8_likeliest, zb_eq, per_in hN1.th hp, zbd_some, if_pos (by decide), b1, zbd_some, K1]
end QUERY4
