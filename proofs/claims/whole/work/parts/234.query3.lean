section QUERY3
variable {n : Nat} {G M H D A B : Nat → Nat} {c0 c1 : List Nat} {s : zS}
theorem zprs_n : ∀ k, k < (zprs n G M c0 c1 (2 ^ n - 1) 232).length → zvw n (2 ^ n - 1) ((zprs n G M c0 c1 (2 ^ n - 1) 232).getD k zno) := fun k hk => (zprs_ok (n := n) (G := G) (M := M) (c0 := c0) (c1 := c1) (S := 2 ^ n - 1) (wish := 232)).2 _ (gd_mem _ zno hk)
/-- both know the pairings -/
theorem pairs2 (hN : JNx s n G M H D c0 c1) (hK : JK s n G M H c0 c1 A B) : ∃ s1 s2, f_X0_learnPairings s = some ((), s1) ∧ f_X8_laysHeld (zs_i s1 76 0 0) = some ((), s2) ∧ JNx s1 n G M H D c0 c1 ∧ JK s1 n G M H c0 c1 A B ∧ JH7 s1 n (2 ^ n - 1) (zprs n G M c0 c1 (2 ^ n - 1) 232) ∧ JH8 s2 (zprs n G M c0 c1 (2 ^ n - 1) 232) ∧ (zprs n G M c0 c1 (2 ^ n - 1) 232).length ≤ 232 ∧ zk_k CC s s1 ∧ zk_m MC s1 s2 ∧ s2.1 93 0 = s1.1 93 0 ∧ s2.1 77 = s1.1 77 := by
  obtain ⟨s1, a1, a2, a3, a4⟩ := pairsK hK
  have hN1 := hN.c a4
  obtain ⟨s2, b1, b2, b3⟩ := held8 hN1.th.m
  exact ⟨s1, s2, a1, b1, hN1, a2, a3, b2, zprs_ok.1, a4, zk_m.th.tr (b3.mono (by decide)), by rw [(b3.1 93 (by decide)).1, zs_i_n _ _ _ _ _ (by decide)], by rw [(b3.1 77 (by decide)).1, zs_i_n _ _ _ _ _ (by decide)]⟩
theorem q_pairings (hN : JNx s n G M H D c0 c1) (hK : JK s n G M H c0 c1 A B) : QR f_X7_pairings f_X8_pairings s n G M H c0 c1 A B := by
  obtain ⟨s1, s2, a1, b1, hN1, hK1, h7, h8, hl, k1, k2, e93, -⟩ := pairs2 hN hK
  refine ⟨nI (zprs n G M c0 c1 (2 ^ n - 1) 232).length, s1, s2, ?_, ?_, hK1, k1, k2, e93⟩
  · rw [f_X7_pairings, a1, zbd_some, h7.1]
  · rw [f_X8_pairings, zb_eq, b1, zbd_some, h8.1]
theorem q_partner (hN : JNx s n G M H D c0 c1) (hK : JK s n G M H c0 c1 A B) (a b : Int32) : QR (f_X7_partner a b) (f_X8_partner a b) s n G M H c0 c1 A B := by
  have hn := hN.1.1
  rcases per_cases hN b with ⟨h1, h2⟩ | ⟨p, hp, rfl⟩
  · refine QR.no hK (-2) ?_ ?_
    · rw [f_X7_partner, h1, zbd_some, if_neg (fun z => z rfl)]
    · rw [f_X8_partner, zb_eq, h2 _ hN.th, zbd_some, if_neg (fun z => z rfl)]
  have e7 := has_in hN hp
  obtain ⟨s1, s2, a1, b1, hN1, hK1, h7, h8, hl, k1, k2, e93, e77⟩ := pairs2 hN hK
  have e8 : ∀ t, JNx t n G M H D c0 c1 → f_X8_isPerson (nI p).toInt64 t = some (1, t) := fun t ht => per_in ht hp
  rcases i_cases a (zprs n G M c0 c1 (2 ^ n - 1) 232).length (by omega) with ⟨h, h'⟩ | ⟨h0, h⟩ | ⟨k, hk, rfl⟩
  · refine QR.no hK (-3) ?_ ?_
    · rw [f_X7_partner, e7, zbd_some, if_pos (by decide), if_neg h']
    · rw [f_X8_partner, zb_eq, e8 _ hN.th, zbd_some, if_pos (by decide), if_neg h']
  · refine ⟨-1, s1, s2, ?_, ?_, hK1, k1, k2, e93⟩
    · rw [f_X7_partner, e7, zbd_some, if_pos (by decide), if_pos (Int32.not_lt.mp h0), a1, zbd_some, part7_no h7 _ h, zbd_some]
    · rw [f_X8_partner, zb_eq, e8 _ hN1.th, zbd_some, if_pos (by decide), if_pos (Int32.not_lt.mp h0), b1, zbd_some, h8.1, if_pos h]
      rfl
  · refine ⟨oI ((zprs n G M c0 c1 (2 ^ n - 1) 232).getD k zno p), s1, s2, ?_, ?_, hK1, k1, k2, e93⟩
    · rw [f_X7_partner, e7, zbd_some, if_pos (by decide), if_pos (nI_pos' (by omega)), a1, zbd_some, part7 hn h7 hl zprs_ok.2 hp hk, zbd_some]
    · rw [f_X8_partner, zb_eq, e8 _ hN1.th, zbd_some, if_pos (by decide), if_pos (nI_pos' (by omega)), b1, zbd_some, h8.1, if_neg (nI_ge hk (by omega)), rd_92 s2 (7 * k + p) (by rw [pk_mul, nI_add]) (by omega), Option.bind_some, h8.2 k hk p (by omega)]
      rfl
/-- with whom one can be -/
def zcan (L : List (Nat → Option Nat)) (p : Nat) : Nat → Nat
  | 0 => 0
  | k + 1 => match L.getD k zno p with
    | none => zcan L p k
    | some q => zcan L p k ||| 2 ^ q
theorem q_can (hN : JNx s n G M H D c0 c1) (hK : JK s n G M H c0 c1 A B) (a : Int32) : QR (f_X7_can a) (f_X8_can a) s n G M H c0 c1 A B := by
  have hn := hN.1.1
  rcases per_cases hN a with ⟨h1, h2⟩ | ⟨p, hp, rfl⟩
  · refine QR.no hK (-2) ?_ ?_
    · rw [f_X7_can, h1, zbd_some, if_neg (fun z => z rfl)]
    · rw [f_X8_can, zb_eq, h2 _ hN.th, zbd_some, if_neg (fun z => z rfl)]
  obtain ⟨s1, s2, a1, b1, hN1, hK1, h7, h8, hl, k1, k2, e93, e77⟩ := pairs2 hN hK
  have hv := zprs_n (n := n) (G := G) (M := M) (c0 := c0) (c1 := c1)
  have hok := (zprs_ok (n := n) (G := G) (M := M) (c0 := c0) (c1 := c1) (S := 2 ^ n - 1) (wish := 232)).2
  generalize zprs n G M c0 c1 (2 ^ n - 1) 232 = L at h7 h8 hl hv hok
  refine ⟨nI (zcan L p L.length), s1, s2, ?_, ?_, hK1, k1, k2, e93⟩
  · obtain ⟨q', u, g1, -⟩ := zlp (fun q i (_ : Unit) => f_X7_can_25 q (nI p) (nI (zcan L p i)) (nI i) s1) L.length (fun _ _ => True) (fun q i _ hi _ => by
      refine ⟨(), ?_, trivial⟩
      show f_X7_can_25 (q + 1) (nI p) (nI (zcan L p i)) (nI i) s1 = f_X7_can_25 q (nI p) (nI (zcan L p (i + 1))) (nI (i + 1)) s1
      rw [f_X7_can_25, h7.1, if_neg (nI_ge hi (by omega)), part7 hn h7 hl hok hp hi, zbd_some, zcan]
      cases hw : L.getD i zno p with
      | none => rw [show oI none = (-1 : Int32) from rfl, if_pos (by decide), f_X7_can_59, zb_eq, nI_1]
      | some r =>
        have := (hv i hi p r hw).2.1
        rw [show oI (some r) = nI r from rfl, if_neg (nI_pos (by omega)), one_shl r (by omega), nI_or, zb_eq, f_X7_can_59, zb_eq, nI_1]) L.length 0 zFU () (by omega) (by show L.length < 5000; omega) trivial
    have g1' : f_X7_can_25 zFU (nI p) 0 0 s1 = f_X7_can_25 (q' + 1) (nI p) (nI (zcan L p L.length)) (nI L.length) s1 := g1
    rw [f_X7_can, has_in hN hp, zbd_some, if_pos (by decide), a1, zbd_some, g1', f_X7_can_25, h7.1, if_pos (nI_le (Nat.le_refl _) (by omega))]
  · obtain ⟨q', u, g1, -⟩ := zlp (fun q i (_ : Unit) => f_X8_can_25 q (nI p) (nI (zcan L p i)) (nI i) s2) L.length (fun _ _ => True) (fun q i _ hi _ => by
      refine ⟨(), ?_, trivial⟩
      show f_X8_can_25 (q + 1) (nI p) (nI (zcan L p i)) (nI i) s2 = f_X8_can_25 q (nI p) (nI (zcan L p (i + 1))) (nI (i + 1)) s2
      have er : zr_i s2 92 (nI 7 * nI i + nI p) = some (oI (L.getD i zno p)) := by rw [rd_92 s2 (7 * i + p) (by rw [pk_mul, nI_add]) (by omega), h8.2 i hi p (by omega)]
      rw [f_X8_can_25, h8.1, if_neg (nI_ge hi (by omega)), er, Option.bind_some, zcan]
      cases hw : L.getD i zno p with
      | none =>
        rw [show oI none = (-1 : Int32) from rfl, if_neg (fun z => z rfl), f_X8_can_66, zb_eq, zb_eq, or_zero, nI_1]
      | some r =>
        have := (hv i hi p r hw).2.1
        rw [show oI (some r) = nI r from rfl, if_pos (ne_m1 (by omega)), Option.bind_some, one_shl r (by omega), f_X8_can_66, zb_eq, zb_eq, nI_or, nI_1]) L.length 0 zFU () (by omega) (by show L.length < 5000; omega) trivial
    have g1' : f_X8_can_25 zFU (nI p) 0 0 s2 = f_X8_can_25 (q' + 1) (nI p) (nI (zcan L p L.length)) (nI L.length) s2 := g1
    rw [f_X8_can, zb_eq, per_in hN1.th hp, zbd_some, if_pos (by decide), b1, zbd_some, g1', f_X8_can_25, h8.1, if_pos (nI_le (Nat.le_refl _) (by omega))]
/-- who is with the same one in all -/
def zsame (L : List (Nat → Option Nat)) (p : Nat) : Nat → Bool
  | 0 => true
  | k + 1 => zsame L p k && decide (L.getD (k + 1) zno p = L.getD 0 zno p)
theorem oI_inj {n S : Nat} {w v : Nat → Option Nat} (hn : n ≤ 7) (h1 : zvw n S w) (h2 : zvw n S v) (p : Nat) : (oI (w p) = oI (v p)) ↔ w p = v p := by
  cases hw : v p with
  | none =>
    cases hx : w p with
    | none => exact ⟨fun _ => rfl, fun _ => rfl⟩
    | some r => exact ⟨fun z => absurd z (ne_m1 (by have := (h1 p r hx).2.1; omega)), fun z => by cases z⟩
  | some q => exact oI_ne hn (h2 p q hw).2.1 (fun r hr => (h1 p r hr).2.1)
set_option maxRecDepth 20000 in
theorem and_clr : ∀ p, p < 7 → ∀ x, x < 128 → nI x &&& ((zo_shl (1 : Int32) (nI p)) ^^^ (-1 : Int32)) = nI (x &&& (127 - 2 ^ p)) := clr7
theorem q_sure (hN : JNx s n G M H D c0 c1) (hK : JK s n G M H c0 c1 A B) : QR f_X7_sure f_X8_sure s n G M H c0 c1 A B := by
  have hn := hN.1.1
  have h128 := pow_128 hn
  obtain ⟨s1, s2, a1, b1, hN1, hK1, h7, h8, hl, k1, k2, e93, e77⟩ := pairs2 hN hK
  have hv := zprs_n (n := n) (G := G) (M := M) (c0 := c0) (c1 := c1)
  have hok := (zprs_ok (n := n) (G := G) (M := M) (c0 := c0) (c1 := c1) (S := 2 ^ n - 1) (wish := 232)).2
  generalize zprs n G M c0 c1 (2 ^ n - 1) 232 = L at h7 h8 hl hv hok
  have h3 := hK1.1.1.1.2.1
  have e3 : zr_i s2 77 (1 : Int32) = some (nI n) := by rw [r77_1, e77, hN1.m.2.1]
  -- the answer: bit by bit
  refine ⟨nI (zbs (fun p => zsame L p (L.length - 1)) n), s1, s2, ?_, ?_, hK1, k1, k2, e93⟩
  · -- the class takes bits away
    have step : ∀ (kb : Int32 → Int32 → zS → Option (Int32 × zS)) (p x : Nat), p < n → x < 128 → x.testBit p = true → ∃ y, y < 128 ∧ (∀ i, i < 7 → y.testBit i = (x.testBit i && (decide (i ≠ p) || zsame L p (L.length - 1)))) ∧ f_X7_sure_30 kb zFU (nI x) (nI p) 1 s1 = kb (nI y) (nI (p + 1)) s1 := by
      intro kb p x hp hx hxp
      have K : ∀ (j k f y : Nat), k + j = L.length - 1 → j < f → y < 128 → (∀ i, i < 7 → y.testBit i = (x.testBit i && (decide (i ≠ p) || zsame L p k))) → ∃ y2, y2 < 128 ∧ (∀ i, i < 7 → y2.testBit i = (x.testBit i && (decide (i ≠ p) || zsame L p (L.length - 1)))) ∧ f_X7_sure_30 kb f (nI y) (nI p) (nI (k + 1)) s1 = kb (nI y2) (nI (p + 1)) s1 := by
        intro j
        induction j with
        | zero =>
          intro k f y hk hf hy hb
          obtain ⟨f, rfl⟩ : ∃ r, f = r + 1 := ⟨f - 1, by omega⟩
          have e : k = L.length - 1 := by omega
          refine ⟨y, hy, by rw [← e]; exact hb, ?_⟩
          rw [f_X7_sure_30, h7.1, if_pos (nI_le (by omega) (by omega)), zb_eq, nI_1]
        | succ j ih =>
          intro k f y hk hf hy hb
          obtain ⟨f, rfl⟩ : ∃ r, f = r + 1 := ⟨f - 1, by omega⟩
          rw [f_X7_sure_30, h7.1, if_neg (nI_ge (by omega) (by omega)), part7 hn h7 hl hok hp (by omega), zbd_some, ← nI_0, part7 hn h7 hl hok hp (by omega), zbd_some]
          by_cases e : L.getD (k + 1) zno p = L.getD 0 zno p
          · rw [if_pos (by rw [e]), f_X7_sure_70, zb_eq, nI_1]
            exact ih (k + 1) f y (by omega) (by omega) hy (fun i hi => by rw [hb i hi, zsame]; simp [e])
          · rw [if_neg (fun z => e ((oI_inj hn (hv (k + 1) (by omega)) (hv 0 (by omega)) p).mp z)), zb_eq, clr7 p (by omega) y hy, f_X7_sure_70, zb_eq, nI_1]
            refine ih (k + 1) f _ (by omega) (by omega) (clr_lt _ _) (fun i hi => ?_)
            rw [clr_bit (by omega) hi, hb i hi, zsame, decide_eq_false e]
            by_cases e2 : i = p
            · simp [e2]
            · simp [e2]
      exact K (L.length - 1) 0 zFU x (by omega) (by show L.length - 1 < 5000; omega) hx (fun i hi => by simp [zsame])
    have K : ∀ (j p f x : Nat), p + j = n → j < f → x < 128 → (∀ i, i < 7 → x.testBit i = (decide (i < n) && (decide (p ≤ i) || zsame L i (L.length - 1)))) → f_X7_sure_17 f (nI x) (nI p) s1 = some (nI (zbs (fun p => zsame L p (L.length - 1)) n), s1) := by
      intro j
      induction j with
      | zero =>
        intro p f x hp hf hx hb
        obtain ⟨f, rfl⟩ : ∃ r, f = r + 1 := ⟨f - 1, by omega⟩
        rw [f_X7_sure_17, h3, if_pos (nI_le (by omega) (by omega))]
        have : x = zbs (fun p => zsame L p (L.length - 1)) n := Nat.eq_of_testBit_eq (fun i => by
          rw [zbs_bit]
          by_cases hi : i < 7
          · rw [hb i hi]
            by_cases h2 : i < n
            · simp [h2, show ¬ p ≤ i by omega]
            · simp [h2]
          · rw [Nat.testBit_lt_two_pow (Nat.lt_of_lt_of_le hx (by
              have : 2 ^ 7 ≤ 2 ^ i := Nat.pow_le_pow_right (by decide) (by omega)
              omega)), decide_eq_false (by omega), Bool.false_and])
        rw [this]
      | succ j ih =>
        intro p f x hp hf hx hb
        obtain ⟨f, rfl⟩ : ∃ r, f = r + 1 := ⟨f - 1, by omega⟩
        obtain ⟨y, y1, y2, y3⟩ := step (f_X7_sure_17 f) p x (by omega) hx (by rw [hb p (by omega)]; simp; omega)
        rw [f_X7_sure_17, h3, if_neg (nI_ge (by omega) (by omega)), y3]
        refine ih (p + 1) f y (by omega) (by omega) y1 (fun i hi => ?_)
        rw [y2 i hi, hb i hi]
        by_cases e : i = p
        · subst e; rw [decide_eq_false (show ¬ i + 1 ≤ i by omega)]; simp
        · have : decide (p ≤ i) = decide (p + 1 ≤ i) := by
            by_cases h : p ≤ i
            · rw [decide_eq_true h, decide_eq_true (by omega)]
            · rw [decide_eq_false h, decide_eq_false (by omega)]
          rw [this]; simp [e]
    rw [f_X7_sure, a1, zbd_some, allK hK1.1.1.1, zbd_some]
    exact K n 0 zFU (2 ^ n - 1) (by omega) (by show n < 5000; omega) (by omega) (fun i hi => by
      rw [Nat.testBit_two_pow_sub_one]; simp)
  · have inner : ∀ (kb : Int32 → Int32 → zS → Option (Int32 × zS)) (p x : Nat), p < n → f_X8_sure_28 kb zFU (nI x) (nI p) 1 1 s2 = f_X8_sure_84 kb (nI p) (if zsame L p (L.length - 1) then nI (2 ^ p) else 0) (nI x) s2 := by
      intro kb p x hp
      have K : ∀ (j k f : Nat), k + j = L.length - 1 → j < f → f_X8_sure_28 kb f (nI x) (nI p) (if zsame L p k then 1 else 0) (nI (k + 1)) s2 = f_X8_sure_84 kb (nI p) (if zsame L p (L.length - 1) then nI (2 ^ p) else 0) (nI x) s2 := by
        intro j
        induction j with
        | zero =>
          intro k f hk hf
          obtain ⟨f, rfl⟩ : ∃ r, f = r + 1 := ⟨f - 1, by omega⟩
          have e : k = L.length - 1 := by omega
          rw [f_X8_sure_28, h8.1, if_pos (nI_le (by omega) (by omega)), ← e, one_shl p (by omega)]
          cases zsame L p k <;> rfl
        | succ j ih =>
          intro k f hk hf
          obtain ⟨f, rfl⟩ : ∃ r, f = r + 1 := ⟨f - 1, by omega⟩
          have h0 := h8.2 0 (by omega) p (by omega)
          rw [show 7 * 0 + p = p by omega] at h0
          have ih := ih (k + 1) f (by omega) (by omega)
          rw [zsame] at ih
          rw [f_X8_sure_28, h8.1, if_neg (nI_ge (by omega) (by omega)), rd_92 s2 (7 * (k + 1) + p) (by rw [pk_mul, nI_add]) (by omega), Option.bind_some, rd_92 s2 p rfl (by omega), Option.bind_some, h8.2 (k + 1) (by omega) p (by omega), h0]
          by_cases e : L.getD (k + 1) zno p = L.getD 0 zno p
          · rw [if_neg (fun z => z (by rw [e])), f_X8_sure_64, zb_eq, zb_eq, nI_1]
            simp only [e, decide_true, Bool.and_true] at ih
            rw [← ih]
            cases zsame L p k <;> rfl
          · rw [if_pos (fun z => e ((oI_inj hn (hv (k + 1) (by omega)) (hv 0 (by omega)) p).mp z)), f_X8_sure_64, zb_eq, zb_eq, nI_1]
            simp only [e, decide_false, Bool.and_false] at ih
            rw [← ih]
            cases zsame L p k <;> rfl
      exact K (L.length - 1) 0 zFU (by omega) (by show L.length - 1 < 5000; omega)
    obtain ⟨q', u, g1, -⟩ := zlp (fun q i (_ : Unit) => f_X8_sure_13 q (nI (zbs (fun p => zsame L p (L.length - 1)) i)) (nI i) s2) n (fun _ _ => True) (fun q i _ hi _ => by
      refine ⟨(), ?_, trivial⟩
      show f_X8_sure_13 (q + 1) (nI (zbs (fun p => zsame L p (L.length - 1)) i)) (nI i) s2 = f_X8_sure_13 q (nI (zbs (fun p => zsame L p (L.length - 1)) (i + 1))) (nI (i + 1)) s2
      have hlt := zbs_lt (fun p => zsame L p (L.length - 1)) i
      have h7 : 2 ^ i ≤ 2 ^ 7 := Nat.pow_le_pow_right (by decide) (by omega)
      rw [f_X8_sure_13, e3, Option.bind_some, if_neg (nI_ge hi (by omega)), inner _ i _ hi, f_X8_sure_84, zb_eq, zb_eq, nI_1, zbs]
      cases zsame L i (L.length - 1) with
      | true => simp only [if_true]; rw [or_bit i (by omega) _ (by omega) hlt]
      | false => simp only [Bool.false_eq_true, if_false]; rw [or_zero]) n 0 zFU () (by omega) (by show n < 5000; omega) trivial
    have g1' : f_X8_sure_13 zFU 0 0 s2 = f_X8_sure_13 (q' + 1) (nI (zbs (fun p => zsame L p (L.length - 1)) n)) (nI n) s2 := g1
    rw [f_X8_sure, zb_eq, b1, zbd_some, g1', f_X8_sure_13, e3, Option.bind_some, if_pos (nI_le (Nat.le_refl _) (by omega))]
end QUERY3
