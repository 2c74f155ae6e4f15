/-- a tray of both: none such, missing, or z numbers of a sort -/
theorem tray_cases {s : zS} (hY : JY s) (x : Int32) : (f_X6_isOne x s = some (0, s) ∧ f_X8_noTray x (zs_i s 76 0 0) = some (-2, zs_i s 76 0 0) ∧ f_X8_within x.toInt64 0 3 (zs_i s 76 0 0) = some (0, zs_i s 76 0 0)) ∨ ∃ t, t < 4 ∧ x = nI t ∧ f_X6_isOne x s = some (1, s) ∧ (∀ u, f_X8_within x.toInt64 0 3 u = some (1, u)) ∧ ((f_X6_isMissing x s = some (1, s) ∧ f_X8_noTray x (zs_i s 76 0 0) = some (-6, zs_i s 76 0 0)) ∨ ∃ so z, so < 4 ∧ z ≤ 40 ∧ s.1 69 t = nI so ∧ s.1 97 t = nI so ∧ s.1 70 t = nI z ∧ s.1 98 t = nI z ∧ (∀ i, i < z → s.2 71 (40 * t + i) = s.2 99 (40 * t + i)) ∧ f_X6_isMissing x s = some (0, s) ∧ f_X6_sizeOf x s = some (nI z, s) ∧ (∀ i, i < z → f_X6_numberAt x (nI i) s = some (s.2 71 (40 * t + i), s)) ∧ f_X8_noTray x (zs_i s 76 0 0) = some (0, zs_i s 76 0 0)) := by
  rcases i_cases x 4 (by decide) with ⟨h, -⟩ | ⟨-, h⟩ | ⟨t, ht, rfl⟩
  · exact Or.inl ⟨one_neg s h, notray_neg _ h, wi_neg _ h⟩
  · exact Or.inl ⟨one_big s h, notray_big _ h, wi_big _ (m := 3) (by decide) rfl h⟩
  · refine Or.inr ⟨t, ht, rfl, one_in s ht, fun u => wi_in u (m := 3) (by omega) (by decide) rfl, ?_⟩
    have e97 : (zs_i s 76 0 0).1 97 = s.1 97 := zs_i_n _ _ _ _ _ (by decide)
    obtain ⟨h1, h2⟩ := hY t ht
    rcases h2 with h2 | ⟨⟨so, hso, h2⟩, z, hz, h3, h4, h5⟩
    · exact Or.inl ⟨miss_m s ht h2, notray_m _ ht (by rw [e97, ← h1]; exact h2)⟩
    · refine Or.inr ⟨so, z, hso, hz, h2, by rw [← h1]; exact h2, h3, h4, h5, miss_h s ht hso h2, size_h s ht hso h2 h3, fun i hi => ?_, notray_in _ ht hso (by rw [e97, ← h1]; exact h2)⟩
      unfold f_X6_numberAt f_X6_numberAt_28
      rw [if_neg (nI_pos (by omega)), size_h s ht hso h2 h3, zbd_some, if_neg (nI_ge hi (by omega)), rd_71 s (40 * t + i) (by rw [pk_mul, nI_add, Nat.mul_comm]) (by omega), Option.bind_some]
theorem bl_1 : ∀ v, v < 18 → (lg_cmp (lN v) 0 < 0 ↔ False) ∧ lg_cmp (lN v) 18 < 0 ∧ zo_shl (1 : Int32) ((zo_lshr (lN v) (1 : Int32)).toInt32) = nI (2 ^ (v / 2)) ∧ (lg_cmp ((lN v) &&& 1) 1 = 0 ↔ v % 2 = 1) ∧ ((lN v) / (2 : Int64)).toInt32 = nI (v / 2) ∧ zo_lrem (lN v) (2 : Int64) = lN (v % 2) := by decide +kernel
theorem lg_lt0 (x y : Int64) : (lg_cmp x y < 0) ↔ ¬ y ≤ x := by
  rw [← lg_cmp_ge x y]
  exact Int32.not_le.symm
theorem l18 {x : Int64} : (x < 0 ∨ ¬ x < 18) ∨ ∃ v, v < 18 ∧ x = lN v := by
  by_cases h : x < 0
  · exact Or.inl (Or.inl h)
  · obtain ⟨k, hk, rfl⟩ := pk_lOf h
    by_cases h2 : k < 18
    · exact Or.inr ⟨k, h2, rfl⟩
    · refine Or.inl (Or.inr (fun z => h2 ?_))
      have : lN k < lN 18 := z
      exact (pk_lLT hk (by decide)).mp this
/-- what was seen: ink, and bare -/
def zik (v : Nat → Nat) : Nat → Nat
  | 0 => 0
  | i + 1 => if v i % 2 = 1 then zik v i ||| 2 ^ (v i / 2) else zik v i
def zbr (v : Nat → Nat) : Nat → Nat
  | 0 => 0
  | i + 1 => if v i % 2 = 1 then zbr v i else zbr v i ||| 2 ^ (v i / 2)
def zso (v : Nat → Nat) (g : Nat) : Nat → Bool
  | 0 => true
  | i + 1 => zso v g i && (g.testBit (v i / 2) == decide (v i % 2 = 1))
theorem and_or1 (g a c : Nat) : (g &&& (a ||| 2 ^ c) = a ||| 2 ^ c) ↔ (g &&& a = a ∧ g.testBit c = true) := by
  constructor
  · intro h
    have hb : ∀ i, ((g.testBit i) && (a.testBit i || decide (c = i))) = (a.testBit i || decide (c = i)) := fun i => by
      have := congrArg (fun x => x.testBit i) h
      simpa [Nat.testBit_and, Nat.testBit_or, Nat.testBit_two_pow] using this
    refine ⟨Nat.eq_of_testBit_eq (fun i => ?_), ?_⟩
    · rw [Nat.testBit_and]
      have := hb i
      revert this
      cases g.testBit i <;> cases a.testBit i <;> simp
    · have := hb c
      simpa using this
  · rintro ⟨h1, h2⟩
    refine Nat.eq_of_testBit_eq (fun i => ?_)
    have := congrArg (fun x => x.testBit i) h1
    simp only [Nat.testBit_and] at this
    rw [Nat.testBit_and, Nat.testBit_or, Nat.testBit_two_pow]
    by_cases e : c = i
    · subst e; simp [h2]
    · simp only [e, decide_false, Bool.or_false]; exact this
theorem and_or0 (g a c : Nat) : (g &&& (a ||| 2 ^ c) = 0) ↔ (g &&& a = 0 ∧ g.testBit c = false) := by
  constructor
  · intro h
    have hb : ∀ i, ((g.testBit i) && (a.testBit i || decide (c = i))) = false := fun i => by
      have := congrArg (fun x => x.testBit i) h
      simpa [Nat.testBit_and, Nat.testBit_or, Nat.testBit_two_pow] using this
    refine ⟨Nat.eq_of_testBit_eq (fun i => ?_), ?_⟩
    · rw [Nat.testBit_and, Nat.zero_testBit]
      have := hb i
      revert this
      cases g.testBit i <;> cases a.testBit i <;> simp
    · have := hb c
      simpa using this
  · rintro ⟨h1, h2⟩
    refine Nat.eq_of_testBit_eq (fun i => ?_)
    have := congrArg (fun x => x.testBit i) h1
    simp only [Nat.testBit_and, Nat.zero_testBit] at this
    rw [Nat.testBit_and, Nat.testBit_or, Nat.testBit_two_pow, Nat.zero_testBit]
    by_cases e : c = i
    · subst e; simp [h2]
    · simp only [e, decide_false, Bool.or_false]; exact this
theorem zso_iff (v : Nat → Nat) (g : Nat) : ∀ i, zso v g i = true ↔ (g &&& zik v i = zik v i ∧ g &&& zbr v i = 0) := by
  intro i
  induction i with
  | zero => simp [zso, zik, zbr]
  | succ i ih =>
    rw [zso, Bool.and_eq_true, ih, zik, zbr]
    by_cases h : v i % 2 = 1
    · rw [if_pos h, if_pos h, and_or1]
      simp only [h, decide_true, beq_iff_eq]
      constructor
      · rintro ⟨⟨a, b⟩, c⟩; exact ⟨⟨a, c⟩, b⟩
      · rintro ⟨⟨a, c⟩, b⟩; exact ⟨⟨a, b⟩, c⟩
    · rw [if_neg h, if_neg h, and_or0]
      simp only [h, decide_false, beq_iff_eq]
      constructor
      · rintro ⟨⟨a, b⟩, c⟩; exact ⟨a, b, c⟩
      · rintro ⟨a, b, c⟩; exact ⟨⟨a, b⟩, c⟩
theorem zik_lt {v : Nat → Nat} {z : Nat} (hv : ∀ i, i < z → v i < 18) : ∀ i, i ≤ z → zik v i < 512 ∧ zbr v i < 512 := by
  intro i
  induction i with
  | zero => intro _; exact ⟨by show 0 < 512; decide, by show 0 < 512; decide⟩
  | succ i ih =>
    intro hi
    obtain ⟨h1, h2⟩ := ih (by omega)
    have hp : 2 ^ (v i / 2) < 2 ^ 9 := Nat.pow_lt_pow_right (by decide) (by have := hv i (by omega); omega)
    rw [zik, zbr]
    split
    · exact ⟨Nat.or_lt_two_pow (n := 9) h1 hp, h2⟩
    · exact ⟨h1, Nat.or_lt_two_pow (n := 9) h2 hp⟩
section BLOTS
variable {n : Nat} {G M H D A B : Nat → Nat} {c0 c1 : List Nat} {s : zS}
theorem wss7 (hN : JNx s n G M H D c0 c1) {a b : Nat} (ha : a < 512) (hb : b < 512) : f_X5_withSignsSo_3 (nI a) (nI b) s = some (nI (zbs (fun p => decide (G p &&& a = a ∧ G p &&& b = 0)) n), s) := by
  have hn := hN.1.1
  obtain ⟨q', u, g1, -⟩ := zlp (fun q i (_ : Unit) => f_X5_withSignsSo_3_5 q (nI a) (nI b) (nI (zbs (fun p => decide (G p &&& a = a ∧ G p &&& b = 0)) i)) (nI i) s) n (fun _ _ => True) (fun q i _ hi _ => by
    refine ⟨(), ?_, trivial⟩
    show f_X5_withSignsSo_3_5 (q + 1) (nI a) (nI b) (nI (zbs (fun p => decide (G p &&& a = a ∧ G p &&& b = 0)) i)) (nI i) s = f_X5_withSignsSo_3_5 q (nI a) (nI b) (nI (zbs (fun p => decide (G p &&& a = a ∧ G p &&& b = 0)) (i + 1))) (nI (i + 1)) s
    have hl := zbs_lt (fun p => decide (G p &&& a = a ∧ G p &&& b = 0)) i
    have h7 : 2 ^ i ≤ 2 ^ 7 := Nat.pow_le_pow_right (by decide) (by omega)
    obtain ⟨⟨-, u2, u3⟩, -⟩ := hN.2.1 i hi
    have l1 : G i &&& a < 2 ^ 31 := Nat.lt_of_le_of_lt Nat.and_le_left (by omega)
    have l2 : G i &&& b < 2 ^ 31 := Nat.lt_of_le_of_lt Nat.and_le_left (by omega)
    have er : zr_i s 4 (nI i) = some (nI (G i)) := by rw [rd_4 s i rfl (by omega), u2]
    rw [f_X5_withSignsSo_3_5, hN.1.2.2.1, if_neg (nI_ge hi (by omega)), er, Option.bind_some, nI_and, zbs]
    by_cases h1 : G i &&& a = a
    · rw [if_neg (fun z => z (by rw [h1])), Option.bind_some, nI_and]
      by_cases h2 : G i &&& b = 0
      · rw [if_neg (fun z => z (by rw [h2]; rfl)), one_shl i (by omega), or_bit i (by omega) _ (by omega) hl, zb_eq, f_X5_withSignsSo_3_46, zb_eq, nI_1]
        simp only [h1, h2, and_self, decide_true, if_true]
      · rw [if_pos (nI_ne0 (by omega) l2), f_X5_withSignsSo_3_46, zb_eq, nI_1]
        simp [h2]
    · rw [if_pos (fun z => h1 ((nI_eq l1 (by omega)).mp z)), f_X5_withSignsSo_3_46, zb_eq, nI_1]
      simp [h1]) n 0 zFU () (by omega) (by show n < 5000; omega) trivial
  have g1' : f_X5_withSignsSo_3 (nI a) (nI b) s = f_X5_withSignsSo_3_5 (q' + 1) (nI a) (nI b) (nI (zbs (fun p => decide (G p &&& a = a ∧ G p &&& b = 0)) n)) (nI n) s := g1
  rw [g1', f_X5_withSignsSo_3_5, hN.1.2.2.1, if_pos (nI_le (Nat.le_refl _) (by omega))]
theorem zbs_congr {f g : Nat → Bool} : ∀ k, (∀ i, i < k → f i = g i) → zbs f k = zbs g k := by
  intro k
  induction k with
  | zero => intro _; rfl
  | succ k ih => intro h; rw [zbs, zbs, h k (by omega), ih (fun i hi => h i (by omega))]
/-- a blot, of both -/
theorem blot2 (hN : JNx s n G M H D c0 c1) (hY : JY s) (x : Int32) : (f_X6_isOne x s = some (0, s) ∧ f_X8_noBlot x (zs_i s 76 0 0) = some (-2, zs_i s 76 0 0) ∧ f_X8_within x.toInt64 0 3 (zs_i s 76 0 0) = some (0, zs_i s 76 0 0)) ∨ (f_X6_isOne x s = some (1, s) ∧ (∀ u, f_X8_within x.toInt64 0 3 u = some (1, u)) ∧ ((∃ r : Int32, r < 0 ∧ f_X7_blotted x s = some (r, s) ∧ f_X8_noBlot x (zs_i s 76 0 0) = some (r, zs_i s 76 0 0)) ∨ ∃ m, m < 2 ^ n ∧ f_X7_blotted x s = some (nI m, s) ∧ f_X8_noBlot x (zs_i s 76 0 0) = some (0, zs_i s 76 0 0) ∧ f_X8_blotSet x (zs_i s 76 0 0) = some (nI m, zs_i s 76 0 0))) := by
  have hn := hN.1.1
  have h128 := pow_128 hn
  rcases tray_cases hY x with ⟨h1, h2, h3⟩ | ⟨t, ht, rfl, h1, h3, ⟨h4, h5⟩ | ⟨so, z, hso, hz, e69, e97, e70, e98, e71, hm, hsz, hnum, h5⟩⟩
  · exact Or.inl ⟨h1, by rw [f_X8_noBlot, h2, zbd_some, if_neg (by decide)], h3⟩
  · exact Or.inr ⟨h1, h3, Or.inl ⟨-6, by decide, by rw [f_X7_blotted, h4, zbd_some, if_neg (by decide)], by rw [f_X8_noBlot, h5, zbd_some, if_neg (by decide)]⟩⟩
  refine Or.inr ⟨h1, h3, ?_⟩
  have e98' : ∀ i : Int32, zr_i (zs_i s 76 0 0) 98 (nI t) = some (nI z) := fun _ => by rw [rd_98 _ t rfl ht, zs_i_n _ _ _ _ _ (by decide), e98]
  have e7 : f_X7_blotted (nI t) s = (if nI z < (1 : Int32) then f_X7_blotted_34 s else if nI z ≤ nI 18 then f_X7_blotted_45 zFU (nI t) (nI z) 0 0 0 s else f_X7_blotted_34 s) := by
    rw [f_X7_blotted, hm, zbd_some, if_pos rfl, hsz, zbd_some]
  have e8 : f_X8_noBlot (nI t) (zs_i s 76 0 0) = (zbd (f_X8_within (nI z).toInt64 1 18 (zs_i s 76 0 0)) fun r9 s10 => if ¬ r9 = 0 then f_X8_noBlot_34 zFU (nI t) 0 s10 else some ((-4 : Int32), s10)) := by
    rw [f_X8_noBlot, h5, zbd_some, if_pos rfl, e98' 0, Option.bind_some]
  by_cases hz1 : z = 0 ∨ 18 < z
  · refine Or.inl ⟨-4, by decide, ?_, ?_⟩
    · rw [e7]
      rcases hz1 with rfl | h
      · rw [if_pos (by decide)]; rfl
      · rw [if_neg (show ¬ nI z < (1 : Int32) from nlt_c 1 rfl (by omega) (by omega)), if_neg (nI_ge h (by omega))]; rfl
    · rw [e8, wi_ok, if_neg (fun zz => by
        have y1 := (l_ge (x := nI z) (n := 1) rfl).mp zz.1
        have y2 := (l_le (x := nI z) (n := 18) rfl).mp zz.2
        rw [nI_toInt (by omega)] at y1 y2
        omega), zbd_some, if_neg (fun z => z rfl)]
  have hz2 : 1 ≤ z ∧ z ≤ 18 := by omega
  have e7' : f_X7_blotted (nI t) s = f_X7_blotted_45 zFU (nI t) (nI z) 0 0 0 s := by
    rw [e7, if_neg (show ¬ nI z < (1 : Int32) from nlt_c 1 rfl (by omega) (by omega)), if_pos (nI_le (by omega) (by omega))]
  have e8' : f_X8_noBlot (nI t) (zs_i s 76 0 0) = f_X8_noBlot_34 zFU (nI t) 0 (zs_i s 76 0 0) := by
    rw [e8, wi_ok, if_pos ⟨(l_ge (n := 1) rfl).mpr (by rw [nI_toInt (by omega)]; omega), (l_le (n := 18) rfl).mpr (by rw [nI_toInt (by omega)]; omega)⟩, zbd_some, if_pos (by decide)]
  have r99 : ∀ i, i < z → zr_l (zs_i s 76 0 0) 99 (nI 40 * nI t + nI i) = some (s.2 71 (40 * t + i)) := fun i hi => by
    rw [rd_99 _ (40 * t + i) (by rw [pk_mul, nI_add]) (by omega), e71 i hi]; rfl
  -- is one of them none such?
  by_cases hall : ∀ i, i < z → ∃ v, v < 18 ∧ s.2 71 (40 * t + i) = lN v
  · have hex : ∃ v : Nat → Nat, ∀ i, i < z → v i < 18 ∧ s.2 71 (40 * t + i) = lN (v i) := by
      refine ⟨fun i => (s.2 71 (40 * t + i)).toInt.toNat, fun i hi => ?_⟩
      obtain ⟨v, h1, h2⟩ := hall i hi
      have : (lN v).toInt.toNat = v := by rw [pk_lT (by omega)]; rfl
      show (s.2 71 (40 * t + i)).toInt.toNat < 18 ∧ s.2 71 (40 * t + i) = lN (s.2 71 (40 * t + i)).toInt.toNat
      rw [h2, this]
      exact ⟨h1, rfl⟩
    obtain ⟨v, hv⟩ := hex
    have hlt := zik_lt (v := v) (z := z) (fun i hi => (hv i hi).1)
    refine Or.inr ⟨zbs (fun p => zso v (G p) z) n, zbs_lt _ n, ?_, ?_, ?_⟩
    · obtain ⟨q', u, g1, -⟩ := zlp (fun q i (_ : Unit) => f_X7_blotted_45 q (nI t) (nI z) (nI (zik v i)) (nI (zbr v i)) (nI i) s) z (fun _ _ => True) (fun q i _ hi _ => by
        refine ⟨(), ?_, trivial⟩
        show f_X7_blotted_45 (q + 1) (nI t) (nI z) (nI (zik v i)) (nI (zbr v i)) (nI i) s = f_X7_blotted_45 q (nI t) (nI z) (nI (zik v (i + 1))) (nI (zbr v (i + 1))) (nI (i + 1)) s
        obtain ⟨hv1, hv2⟩ := hv i hi
        obtain ⟨b1, b2, b3, b4, -⟩ := bl_1 (v i) hv1
        rw [f_X7_blotted_45, if_neg (nI_ge hi (by omega)), hnum i hi, zbd_some, hv2, if_neg (fun z => b1.mp z), if_pos b2, b3, zb_eq, zik, zbr]
        by_cases ho : v i % 2 = 1
        · rw [if_neg (fun z => z (b4.mpr ho)), if_pos ho, if_pos ho, nI_or, zb_eq, f_X7_blotted_115, zb_eq, nI_1]
        · rw [if_pos (fun z => ho (b4.mp z)), if_neg ho, if_neg ho, nI_or, zb_eq, f_X7_blotted_115, zb_eq, nI_1]) z 0 zFU () (by omega) (by show z < 5000; omega) trivial
      have g1' : f_X7_blotted_45 zFU (nI t) (nI z) 0 0 0 s = f_X7_blotted_45 (q' + 1) (nI t) (nI z) (nI (zik v z)) (nI (zbr v z)) (nI z) s := g1
      rw [e7', g1', f_X7_blotted_45, if_pos (nI_le (Nat.le_refl _) (by omega)), wss7 hN (hlt z (Nat.le_refl _)).1 (hlt z (Nat.le_refl _)).2, zbd_some]
      congr 3
      refine zbs_congr n (fun p _ => ?_)
      by_cases hc : zso v (G p) z = true
      · rw [hc]; exact decide_eq_true ((zso_iff v (G p) z).mp hc)
      · simp only [Bool.not_eq_true] at hc
        rw [hc]
        exact decide_eq_false (fun zz => by rw [(zso_iff v (G p) z).mpr zz] at hc; cases hc)
    · obtain ⟨q', u, g1, -⟩ := zlp (fun q i (_ : Unit) => f_X8_noBlot_34 q (nI t) (nI i) (zs_i s 76 0 0)) z (fun _ _ => True) (fun q i _ hi _ => by
        refine ⟨(), ?_, trivial⟩
        show f_X8_noBlot_34 (q + 1) (nI t) (nI i) (zs_i s 76 0 0) = f_X8_noBlot_34 q (nI t) (nI (i + 1)) (zs_i s 76 0 0)
        obtain ⟨hv1, hv2⟩ := hv i hi
        rw [f_X8_noBlot_34, e98' 0, Option.bind_some, if_neg (nI_ge hi (by omega)), r99 i hi, Option.bind_some, hv2, wi_ok, if_pos ⟨(pk_lLE (a := 0) (b := v i) (by decide) (by omega)).mpr (Nat.zero_le _), (pk_lLE (a := v i) (b := 17) (by omega) (by decide)).mpr (by omega)⟩, zbd_some, if_pos (by decide), zb_eq, nI_1]) z 0 zFU () (by omega) (by show z < 5000; omega) trivial
      have g1' : f_X8_noBlot_34 zFU (nI t) 0 (zs_i s 76 0 0) = f_X8_noBlot_34 (q' + 1) (nI t) (nI z) (zs_i s 76 0 0) := g1
      rw [e8', g1', f_X8_noBlot_34, e98' 0, Option.bind_some, if_pos (nI_le (Nat.le_refl _) (by omega))]
    · have e3 : zr_i (zs_i s 76 0 0) 77 (1 : Int32) = some (nI n) := by rw [r77_1, hN.th.1.2.1]
      have inner : ∀ (kb : Int32 → Int32 → Int32 → zS → Option (Int32 × zS)) (p c : Nat), p < n → f_X8_blotSet_20 kb zFU (nI t) (nI c) (nI p) 1 0 (zs_i s 76 0 0) = f_X8_blotSet_110 kb (nI t) (nI p) (if zso v (G p) z then nI (2 ^ p) else 0) (nI c) (zs_i s 76 0 0) := by
        intro kb p c hp
        obtain ⟨⟨u1, -, u3⟩, -⟩ := hN.th.2.1 p hp
        obtain ⟨q', u, g1, -⟩ := zlp (fun q i (_ : Unit) => f_X8_blotSet_20 kb q (nI t) (nI c) (nI p) (if zso v (G p) i then 1 else 0) (nI i) (zs_i s 76 0 0)) z (fun _ _ => True) (fun q i _ hi _ => by
          refine ⟨(), ?_, trivial⟩
          show f_X8_blotSet_20 kb (q + 1) (nI t) (nI c) (nI p) (if zso v (G p) i then 1 else 0) (nI i) (zs_i s 76 0 0) = f_X8_blotSet_20 kb q (nI t) (nI c) (nI p) (if zso v (G p) (i + 1) then 1 else 0) (nI (i + 1)) (zs_i s 76 0 0)
          obtain ⟨hv1, hv2⟩ := hv i hi
          obtain ⟨-, -, -, -, b5, b6⟩ := bl_1 (v i) hv1
          rw [f_X8_blotSet_20, e98' 0, Option.bind_some, if_neg (nI_ge hi (by omega)), rd_77 _ (29 + p) (nI_add _ _) (by omega), Option.bind_some, u1, r99 i hi, Option.bind_some, Option.bind_some, hv2, b5, b6, shr_bit (by omega) (by omega), zso, nI_l (by omega)]
          have hbit : (G p).testBit (v i / 2) = decide (G p / 2 ^ (v i / 2) % 2 = 1) := by
            have := zbit_tb (G p) (v i / 2)
            unfold zbit at this
            rw [this]
            cases (G p).testBit (v i / 2) <;> rfl
          have hm2 : G p / 2 ^ (v i / 2) % 2 < 2 := Nat.mod_lt _ (by decide)
          by_cases e : G p / 2 ^ (v i / 2) % 2 = v i % 2
          · rw [if_neg (fun z => z ((lg_eq0 _ _).mpr (by rw [e]))), f_X8_blotSet_88, zb_eq, zb_eq, nI_1, hbit, e]
            cases zso v (G p) i <;> simp
          · rw [if_pos (fun z => e ((pk_lEQ (by omega) (by omega)).mp ((lg_eq0 _ _).mp z))), f_X8_blotSet_88, zb_eq, zb_eq, nI_1, hbit]
            have : (decide (G p / 2 ^ (v i / 2) % 2 = 1) == decide (v i % 2 = 1)) = false := by
              by_cases h1 : G p / 2 ^ (v i / 2) % 2 = 1
              · rw [decide_eq_true h1, decide_eq_false (by omega)]; rfl
              · rw [decide_eq_false h1, decide_eq_true (by omega)]; rfl
            rw [this]
            cases zso v (G p) i <;> simp) z 0 zFU () (by omega) (by show z < 5000; omega) trivial
        have g1' : f_X8_blotSet_20 kb zFU (nI t) (nI c) (nI p) 1 0 (zs_i s 76 0 0) = f_X8_blotSet_20 kb (q' + 1) (nI t) (nI c) (nI p) (if zso v (G p) z then 1 else 0) (nI z) (zs_i s 76 0 0) := g1
        rw [g1', f_X8_blotSet_20, e98' 0, Option.bind_some, if_pos (nI_le (Nat.le_refl _) (by omega)), one_shl p (by omega)]
        cases zso v (G p) z <;> rfl
      obtain ⟨q', u, g1, -⟩ := zlp (fun q i (_ : Unit) => f_X8_blotSet_4 q (nI t) (nI (zbs (fun p => zso v (G p) z) i)) (nI i) (zs_i s 76 0 0)) n (fun _ _ => True) (fun q i _ hi _ => by
        refine ⟨(), ?_, trivial⟩
        show f_X8_blotSet_4 (q + 1) (nI t) (nI (zbs (fun p => zso v (G p) z) i)) (nI i) (zs_i s 76 0 0) = f_X8_blotSet_4 q (nI t) (nI (zbs (fun p => zso v (G p) z) (i + 1))) (nI (i + 1)) (zs_i s 76 0 0)
        have hl := zbs_lt (fun p => zso v (G p) z) i
        have h7 : 2 ^ i ≤ 2 ^ 7 := Nat.pow_le_pow_right (by decide) (by omega)
        rw [f_X8_blotSet_4, e3, Option.bind_some, if_neg (nI_ge hi (by omega)), inner _ i _ hi, f_X8_blotSet_110, zb_eq, zb_eq, nI_1, zbs]
        cases zso v (G i) z with
        | true => simp only [if_true]; rw [or_bit i (by omega) _ (by omega) hl]
        | false => simp only [Bool.false_eq_true, if_false]; rw [or_zero]) n 0 zFU () (by omega) (by show n < 5000; omega) trivial
      have g1' : f_X8_blotSet (nI t) (zs_i s 76 0 0) = f_X8_blotSet_4 (q' + 1) (nI t) (nI (zbs (fun p => zso v (G p) z) n)) (nI n) (zs_i s 76 0 0) := g1
      rw [g1', f_X8_blotSet_4, e3, Option.bind_some, if_pos (nI_le (Nat.le_refl _) (by omega))]
  · -- the first that is none such
    obtain ⟨j, hj, hlow⟩ := pk_least (fun j => j < z ∧ ¬ ∃ v, v < 18 ∧ s.2 71 (40 * t + j) = lN v) (by
      refine Decidable.byContradiction (fun hc => hall (fun i hi => Decidable.byContradiction (fun h => hc ⟨i, hi, h⟩)))
      )
    have hok : ∀ i, i < j → ∃ v, v < 18 ∧ s.2 71 (40 * t + i) = lN v := fun i hi => Decidable.byContradiction (fun h => hlow i hi ⟨by omega, h⟩)
    have hbad := l18.resolve_right hj.2
    refine Or.inl ⟨-3, by decide, ?_, ?_⟩
    · obtain ⟨q', u, g1, -⟩ := zlp (fun q i (u : Int32 × Int32) => f_X7_blotted_45 q (nI t) (nI z) u.1 u.2 (nI i) s) j (fun _ _ => True) (fun q i u hi _ => by
        obtain ⟨v, hv1, hv2⟩ := hok i hi
        obtain ⟨b1, b2, b3, b4, -⟩ := bl_1 v hv1
        show ∃ a' : Int32 × Int32, f_X7_blotted_45 (q + 1) (nI t) (nI z) u.1 u.2 (nI i) s = f_X7_blotted_45 q (nI t) (nI z) a'.1 a'.2 (nI (i + 1)) s ∧ True
        rw [f_X7_blotted_45, if_neg (nI_ge (by omega) (by omega)), hnum i (by omega), zbd_some, hv2, if_neg (fun z => b1.mp z), if_pos b2, b3, zb_eq]
        by_cases ho : v % 2 = 1
        · rw [if_neg (fun z => z (b4.mpr ho)), zb_eq, f_X7_blotted_115, zb_eq, nI_1]
          exact ⟨(u.1 ||| nI (2 ^ (v / 2)), u.2), rfl, trivial⟩
        · rw [if_pos (fun z => ho (b4.mp z)), zb_eq, f_X7_blotted_115, zb_eq, nI_1]
          exact ⟨(u.1, u.2 ||| nI (2 ^ (v / 2))), rfl, trivial⟩) j 0 zFU (0, 0) (by omega) (by show j < 5000; omega) trivial
      have g1' : f_X7_blotted_45 zFU (nI t) (nI z) 0 0 0 s = f_X7_blotted_45 (q' + 1) (nI t) (nI z) u.1 u.2 (nI j) s := g1
      rw [e7', g1', f_X7_blotted_45, if_neg (nI_ge hj.1 (by omega)), hnum j hj.1, zbd_some]
      by_cases hneg : s.2 71 (40 * t + j) < 0
      · rw [if_pos ((lg_lt0 _ _).mpr (Int64.not_le.mpr hneg))]; rfl
      · rw [if_neg (fun z => (lg_lt0 _ _).mp z (Int64.not_lt.mp hneg))]
        have h18 := hbad.resolve_left hneg
        rw [if_neg (fun z => (lg_lt0 _ _).mp z (Int64.not_lt.mp h18))]; rfl
    · obtain ⟨q', u, g1, -⟩ := zlp (fun q i (_ : Unit) => f_X8_noBlot_34 q (nI t) (nI i) (zs_i s 76 0 0)) j (fun _ _ => True) (fun q i _ hi _ => by
        refine ⟨(), ?_, trivial⟩
        show f_X8_noBlot_34 (q + 1) (nI t) (nI i) (zs_i s 76 0 0) = f_X8_noBlot_34 q (nI t) (nI (i + 1)) (zs_i s 76 0 0)
        obtain ⟨v, hv1, hv2⟩ := hok i hi
        rw [f_X8_noBlot_34, e98' 0, Option.bind_some, if_neg (nI_ge (by omega) (by omega)), r99 i (by omega), Option.bind_some, hv2, wi_ok, if_pos ⟨(pk_lLE (a := 0) (b := v) (by decide) (by omega)).mpr (Nat.zero_le _), (pk_lLE (a := v) (b := 17) (by omega) (by decide)).mpr (by omega)⟩, zbd_some, if_pos (by decide), zb_eq, nI_1]) j 0 zFU () (by omega) (by show j < 5000; omega) trivial
      have g1' : f_X8_noBlot_34 zFU (nI t) 0 (zs_i s 76 0 0) = f_X8_noBlot_34 (q' + 1) (nI t) (nI j) (zs_i s 76 0 0) := g1
      rw [e8', g1', f_X8_noBlot_34, e98' 0, Option.bind_some, if_neg (nI_ge hj.1 (by omega)), r99 j hj.1, Option.bind_some, wi_ok, if_neg (fun zz => by
        rcases hbad with h | h
        · exact absurd zz.1 (Int64.not_le.mpr h)
        · have h1 := Int64.le_iff_toInt_le.mp zz.2
          have h2 := Int64.le_iff_toInt_le.mp (Int64.not_lt.mp h)
          have e1 : (17 : Int64).toInt = 17 := rfl
          have e2 : (18 : Int64).toInt = 18 := rfl
          omega), zbd_some, if_neg (fun z => z rfl)]
end BLOTS
