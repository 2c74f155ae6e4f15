section SETS2
variable {n : Nat} {G M H D A B : Nat → Nat} {c0 c1 : List Nat} {s : zS}
def ztq (n : Nat) (G : Nat → Nat) (c0 : List Nat) (m p q : Nat) : Option Unit := if m.testBit p && (m.testBit q && !(zfs n G c0 (2 ^ p ||| 2 ^ q))) then some () else none
def ztw7 (n : Nat) (G : Nat → Nat) (c0 : List Nat) (m : Nat) : Bool := (zfo (fun p => zfo (ztq n G c0 m p) (n - (p + 1)) (p + 1)) n 0).isNone
def ztw8 (n : Nat) (G : Nat → Nat) (c0 : List Nat) (m : Nat) : Bool := (zfo (fun p => zfo (ztq n G c0 m p) p 0) n 0).isNone
theorem ztq_sym (m p q : Nat) : ztq n G c0 m p q = ztq n G c0 m q p := by
  unfold ztq
  rw [Nat.or_comm (2 ^ p)]
  cases m.testBit p <;> cases m.testBit q <;> rfl
theorem ztw_eq (m : Nat) : ztw7 n G c0 m = ztw8 n G c0 m := by
  have h7 : ztw7 n G c0 m = true ↔ ∀ p q, p < q → q < n → ztq n G c0 m p q = none := by
    unfold ztw7
    rw [Option.isNone_iff_eq_none, zfo_none]
    refine ⟨fun h p q hpq hq => (zfo_none _ _).mp (h p (Nat.zero_le _) (by omega)) q (by omega) (by omega), fun h p _ hp => (zfo_none _ _).mpr (fun q h1 h2 => h p q (by omega) (by omega))⟩
  have h8 : ztw8 n G c0 m = true ↔ ∀ p q, p < q → q < n → ztq n G c0 m p q = none := by
    unfold ztw8
    rw [Option.isNone_iff_eq_none, zfo_none]
    refine ⟨fun h p q hpq hq => by rw [ztq_sym]; exact (zfo_none _ _).mp (h q (Nat.zero_le _) (by omega)) p (by omega) (by omega), fun h p _ hp => (zfo_none _ _).mpr (fun q h1 h2 => by rw [ztq_sym]; exact h q p (by omega) (by omega))⟩
  cases h1 : ztw7 n G c0 m with
  | true => exact (h8.mpr (h7.mp h1)).symm
  | false =>
    cases h2 : ztw8 n G c0 m with
    | false => rfl
    | true => rw [h7.mpr (h8.mp h2)] at h1; cases h1
theorem alltwo7 {t : zS} (hJ : JR t n G M c0 c1 A B) {m : Nat} (hm : m < 1024) : ∃ t', f_X4_allTwosFit (nI m) t = some (if ztw7 n G c0 m then 1 else 0, t') ∧ JR t' n G M c0 c1 A B ∧ zk_k RC t t' := by
  have hn := hJ.1.1.1
  have inner : ∀ (kb : Int32 → Int32 → zS → Option (Int32 × zS)) (p : Nat) (u : zS), p < n → (JR u n G M c0 c1 A B ∧ zk_k RC t u) → ∃ u', (JR u' n G M c0 c1 A B ∧ zk_k RC t u') ∧ f_X4_allTwosFit_17 kb zFU (nI m) (nI p) (nI (p + 1)) u = ((zfo (ztq n G c0 m p) (n - (p + 1)) (p + 1)).map (fun _ => some ((0 : Int32), u'))).getD (kb (nI m) (nI (p + 1)) u') := fun kb p u hp hu => by
    refine zss (fun q j u => f_X4_allTwosFit_17 kb q (nI m) (nI p) (nI j) u) (p + 1) n (fun u => JR u n G M c0 c1 A B ∧ zk_k RC t u) (ztq n G c0 m p) (fun _ u => some ((0 : Int32), u)) (fun u => kb (nI m) (nI (p + 1)) u) (fun q j u hl hj h => ?_) (fun q u h => ?_) (n - (p + 1)) (p + 1) zFU u (Nat.le_refl _) (by omega) (by show n - (p + 1) < 5000; omega) hu
    · have e17 : f_X4_allTwosFit_17 kb (q + 1) (nI m) (nI p) (nI j) u = (if ¬ (if m.testBit p then (1 : Int32) else 0) = 1 then f_X4_allTwosFit_57 kb (f_X4_allTwosFit_17 kb q) (nI m) (nI p) (nI j) u else if ¬ (if m.testBit j then (1 : Int32) else 0) = 1 then f_X4_allTwosFit_57 kb (f_X4_allTwosFit_17 kb q) (nI m) (nI p) (nI j) u else zbd (f_X4_twoFit (nI p) (nI j) u) fun r3 s4 => if ¬ r3 = 0 then f_X4_allTwosFit_57 kb (f_X4_allTwosFit_17 kb q) (nI m) (nI p) (nI j) s4 else some ((0 : Int32), s4)) := by
        rw [f_X4_allTwosFit_17, h.1.1.1.2.1, if_neg (nI_ge hj (by omega)), ush_tb (by omega) hm, ush_tb (by omega) hm]
      by_cases h1 : m.testBit p = true
      · by_cases h2 : m.testBit j = true
        · obtain ⟨u2, a1, a2, a3⟩ := twofit7 h.1 hp hj (by omega)
          rw [h1, h2, a1, zbd_some] at e17
          by_cases hf : zfs n G c0 (2 ^ p ||| 2 ^ j) = true
          · rw [hf] at e17
            refine Or.inl ⟨by unfold ztq; simp [hf], u2, ?_, a2, h.2.tr a3⟩
            rw [e17]
            show f_X4_allTwosFit_57 kb (f_X4_allTwosFit_17 kb q) (nI m) (nI p) (nI j) u2 = _
            rw [f_X4_allTwosFit_57, zb_eq, nI_1]
          · simp only [Bool.not_eq_true] at hf
            rw [hf] at e17
            exact Or.inr ⟨(), u2, by unfold ztq; simp [h1, h2, hf], e17, a2, h.2.tr a3⟩
        · refine Or.inl ⟨by unfold ztq; simp [h2], u, ?_, h⟩
          simp only [Bool.not_eq_true] at h2
          rw [h1, h2] at e17
          rw [e17]
          show f_X4_allTwosFit_57 kb (f_X4_allTwosFit_17 kb q) (nI m) (nI p) (nI j) u = _
          rw [f_X4_allTwosFit_57, zb_eq, nI_1]
      · refine Or.inl ⟨by unfold ztq; simp [h1], u, ?_, h⟩
        simp only [Bool.not_eq_true] at h1
        rw [h1] at e17
        rw [e17]
        show f_X4_allTwosFit_57 kb (f_X4_allTwosFit_17 kb q) (nI m) (nI p) (nI j) u = _
        rw [f_X4_allTwosFit_57, zb_eq, nI_1]
    · refine ⟨u, ?_, h⟩
      show f_X4_allTwosFit_17 kb (q + 1) (nI m) (nI p) (nI n) u = _
      rw [f_X4_allTwosFit_17, h.1.1.1.2.1, if_pos (nI_le (Nat.le_refl _) (by omega)), zb_eq, nI_1]
  obtain ⟨u, g1, g2⟩ := zss (fun q p u => f_X4_allTwosFit_2 q (nI m) (nI p) u) 0 n (fun u => JR u n G M c0 c1 A B ∧ zk_k RC t u) (fun p => zfo (ztq n G c0 m p) (n - (p + 1)) (p + 1)) (fun _ u => some ((0 : Int32), u)) (fun u => some ((1 : Int32), u)) (fun q p u _ hp h => by
      obtain ⟨u', b1, b2⟩ := inner (f_X4_allTwosFit_2 q) p u hp h
      have e2 : f_X4_allTwosFit_2 (q + 1) (nI m) (nI p) u = f_X4_allTwosFit_17 (f_X4_allTwosFit_2 q) zFU (nI m) (nI p) (nI (p + 1)) u := by
        rw [f_X4_allTwosFit_2, h.1.1.1.2.1, if_neg (nI_ge hp (by omega)), zb_eq, nI_1]
      cases hz : zfo (ztq n G c0 m p) (n - (p + 1)) (p + 1) with
      | none => rw [hz] at b2; exact Or.inl ⟨rfl, u', e2.trans b2, b1⟩
      | some a => rw [hz] at b2; exact Or.inr ⟨a, u', rfl, e2.trans b2, b1⟩) (fun q u h => by
      refine ⟨u, ?_, h⟩
      show f_X4_allTwosFit_2 (q + 1) (nI m) (nI n) u = _
      rw [f_X4_allTwosFit_2, h.1.1.1.2.1, if_pos (nI_le (Nat.le_refl _) (by omega))]) n 0 zFU t (Nat.le_refl _) (by omega) (by show n < 5000; omega) ⟨hJ, zk_k.rf⟩
  refine ⟨u, ?_, g1⟩
  rw [f_X4_allTwosFit]
  refine Eq.trans g2 ?_
  unfold ztw7
  cases zfo (fun p => zfo (ztq n G c0 m p) (n - (p + 1)) (p + 1)) n 0 <;> rfl
theorem each8 {t : zS} (hZ : ZM t n G M c0 c1) (hF : ZFT t n G c0) {m : Nat} (hm : m < 1024) : f_X8_eachTwo (nI m) t = some (if ztw8 n G c0 m then 1 else 0, t) := by
  have hn := hZ.1
  have h128 := pow_128 hn
  have e3 : zr_i t 77 (1 : Int32) = some (nI n) := by rw [r77_1, hZ.2.1]
  have inner : ∀ (kb : Int32 → Int32 → zS → Option (Int32 × zS)) (p : Nat), p < n → f_X8_eachTwo_14 kb zFU (nI m) (nI p) 0 t = ((zfo (ztq n G c0 m p) p 0).map (fun _ => some ((0 : Int32), t))).getD (kb (nI m) (nI (p + 1)) t) := fun kb p hp => by
    rw [← zfo_map]
    refine zsr (fun q j => f_X8_eachTwo_14 kb q (nI m) (nI p) (nI j) t) 0 p _ _ (fun q j hl hj => ?_) (fun q => ?_) p 0 zFU (Nat.le_refl _) (by omega) (by show p < 5000; omega)
    · show f_X8_eachTwo_14 kb (q + 1) (nI m) (nI p) (nI j) t = _
      rw [f_X8_eachTwo_14, if_neg (nI_ge hj (by omega)), in_ok t (by omega) hm, zbd_some]
      unfold ztq
      by_cases h1 : m.testBit p = true
      · rw [if_pos h1, if_neg (by decide), in_ok t (by omega) hm, zbd_some]
        by_cases h2 : m.testBit j = true
        · obtain ⟨w1, w2, -⟩ := two_all G hn hp (show j < n by omega) (by omega)
          rw [if_pos h2, if_neg (by decide), one_shl p (by omega), one_shl j (by omega), nI_or, rd_94 t (2 ^ p ||| 2 ^ j) rfl (by omega), Option.bind_some, hF _ w2 w1]
          by_cases hf : zfs n G c0 (2 ^ p ||| 2 ^ j) = true
          · rw [if_pos hf, if_pos (by decide), f_X8_eachTwo_54, zb_eq, nI_1]
            simp [hf]
          · rw [if_neg hf, if_neg (fun z => z rfl)]
            simp [h1, h2, hf]
        · rw [if_neg h2, if_pos rfl, f_X8_eachTwo_54, zb_eq, nI_1]
          simp [h2]
      · rw [if_neg h1, if_pos rfl, f_X8_eachTwo_54, zb_eq, nI_1]
        simp [h1]
    · show f_X8_eachTwo_14 kb (q + 1) (nI m) (nI p) (nI p) t = _
      rw [f_X8_eachTwo_14, if_pos (nI_le (Nat.le_refl _) (by omega)), zb_eq, nI_1]
  have outer := zsr (fun q p => f_X8_eachTwo_2 q (nI m) (nI p) t) 0 n (fun p => (zfo (ztq n G c0 m p) p 0).map (fun _ => some ((0 : Int32), t))) (some ((1 : Int32), t)) (fun q p _ hp => by
    show f_X8_eachTwo_2 (q + 1) (nI m) (nI p) t = _
    rw [f_X8_eachTwo_2, e3, Option.bind_some, if_neg (nI_ge hp (by omega)), inner _ p hp]) (fun q => by
    show f_X8_eachTwo_2 (q + 1) (nI m) (nI n) t = _
    rw [f_X8_eachTwo_2, e3, Option.bind_some, if_pos (nI_le (Nat.le_refl _) (by omega))]) n 0 zFU (Nat.le_refl _) (by omega) (by show n < 5000; omega)
  rw [zfo_map] at outer
  rw [f_X8_eachTwo]
  refine Eq.trans outer ?_
  unfold ztw8
  cases zfo (fun p => zfo (ztq n G c0 m p) p 0) n 0 <;> rfl
def zmsf (n : Nat) (G : Nat → Nat) (c0 : List Nat) (k m : Nat) : Option Nat := if decide (zpc 9 m = k) && (ztw7 n G c0 m && !(zfs n G c0 m)) then some m else none
def zms (n : Nat) (G : Nat → Nat) (c0 : List Nat) (k : Nat) : Option Nat := zfo (zmsf n G c0 k) (2 ^ n - 1) 1
theorem q_misfits (hN : JNx s n G M H D c0 c1) (hK : JK s n G M H c0 c1 A B) : QR f_X7_misfits f_X8_misfits s n G M H c0 c1 A B := by
  have hn := hN.1.1
  have h128 := pow_128 hn
  have h2p := Nat.two_pow_pos n
  have inner : ∀ (kb : Int32 → zS → Option (Int32 × zS)) (k : Nat) (t : zS), k ≤ 4 → (JR t n G M c0 c1 A B ∧ zk_k RC s t) → ∃ t', (JR t' n G M c0 c1 A B ∧ zk_k RC s t') ∧ f_X7_misfits_9 kb zFU (nI k) 1 t = ((zms n G c0 k).map (fun a => some (nI a, t'))).getD (kb (nI (k + 1)) t') := fun kb k t hk4 ht => by
    refine zss (fun q m t => f_X7_misfits_9 kb q (nI k) (nI m) t) 1 (2 ^ n) (fun t => JR t n G M c0 c1 A B ∧ zk_k RC s t) (zmsf n G c0 k) (fun a t => some (nI a, t)) (fun t => kb (nI (k + 1)) t) (fun q m t hl hm h => ?_) (fun q t h => ?_) (2 ^ n - 1) 1 zFU t (Nat.le_refl _) (by omega) (by show 2 ^ n - 1 < 5000; omega) ht
    · have hz := zpc_le 9 m
      have e9 : f_X7_misfits_9 kb (q + 1) (nI k) (nI m) t = (if ¬ nI (zpc 9 m) = nI k then f_X7_misfits_52 kb (f_X7_misfits_9 kb q) (nI k) (nI m) t else zbd (f_X4_allTwosFit (nI m) t) fun r7 s8 => if r7 = 0 then f_X7_misfits_52 kb (f_X7_misfits_9 kb q) (nI k) (nI m) s8 else zbd (f_X4_isFitting (nI m) s8) fun r9 s10 => if ¬ r9 = 0 then f_X7_misfits_52 kb (f_X7_misfits_9 kb q) (nI k) (nI m) s10 else some (nI m, s10)) := by
        rw [f_X7_misfits_9, allK h.1.1.1, zbd_some, if_neg (nI_nlt (by omega) (by omega)), bc_ok t (by omega), zbd_some]
      by_cases e : zpc 9 m = k
      · obtain ⟨t1, d1, d2, d3⟩ := alltwo7 h.1 (m := m) (by omega)
        rw [if_neg (fun z => z (by rw [e])), d1, zbd_some] at e9
        by_cases hw : ztw7 n G c0 m = true
        · obtain ⟨t2, a1, a2, a3⟩ := fitting7 d2 (m := m) hl hm
          rw [if_pos hw, if_neg (by decide), a1, zbd_some] at e9
          by_cases hf : zfs n G c0 m = true
          · rw [if_pos hf, if_pos (by decide), f_X7_misfits_52, zb_eq, nI_1] at e9
            exact Or.inl ⟨by unfold zmsf; simp [hf], t2, e9, a2, (h.2.tr d3).tr a3⟩
          · rw [if_neg hf, if_neg (fun z => z rfl)] at e9
            exact Or.inr ⟨m, t2, by unfold zmsf; simp [e, hf, hw], e9, a2, (h.2.tr d3).tr a3⟩
        · rw [if_neg hw, if_pos rfl, f_X7_misfits_52, zb_eq, nI_1] at e9
          exact Or.inl ⟨by unfold zmsf; simp [hw], t1, e9, d2, h.2.tr d3⟩
      · rw [if_pos (ne_of_nI e (by omega) (by omega)), f_X7_misfits_52, zb_eq, nI_1] at e9
        exact Or.inl ⟨by unfold zmsf; simp [e], t, e9, h⟩
    · refine ⟨t, ?_, h⟩
      show f_X7_misfits_9 kb (q + 1) (nI k) (nI (2 ^ n)) t = _
      rw [f_X7_misfits_9, allK h.1.1.1, zbd_some, if_pos (nI_lt (by omega) (by omega)), zb_eq, nI_1]
  obtain ⟨s1, ⟨a1, a2⟩, a3⟩ := zss (fun q k t => f_X7_misfits_2 q (nI k) t) 3 5 (fun t => JR t n G M c0 c1 A B ∧ zk_k RC s t) (zms n G c0) (fun a t => some (nI a, t)) (fun t => some ((0 : Int32), t)) (fun q k t hl hk h => by
      obtain ⟨u', b1, b2⟩ := inner (f_X7_misfits_2 q) k t (by omega) h
      have e2 : f_X7_misfits_2 (q + 1) (nI k) t = f_X7_misfits_9 (f_X7_misfits_2 q) zFU (nI k) 1 t := by
        rw [f_X7_misfits_2, if_neg (nI_nlt (by omega) (by omega))]
      cases hz : zms n G c0 k with
      | none => rw [hz] at b2; exact Or.inl ⟨rfl, u', e2.trans b2, b1⟩
      | some a => rw [hz] at b2; exact Or.inr ⟨a, u', rfl, e2.trans b2, b1⟩) (fun q t h => by
      refine ⟨t, ?_, h⟩
      show f_X7_misfits_2 (q + 1) (nI 5) t = _
      rw [f_X7_misfits_2, if_pos (by decide)]) 2 3 zFU s (Nat.le_refl _) (by omega) (by decide) ⟨hK.1, zk_k.rf⟩
  have hN1 : JNx s1 n G M H D c0 c1 := hN.keep a2 (by decide)
  obtain ⟨s2, b1, b2, b3⟩ := fitsall8 hN1.th.m
  have hZ2 := hN1.th.m.keep b3.1 (by decide)
  have e3 : zr_i s2 77 (1 : Int32) = some (nI n) := by rw [r77_1, hZ2.2.1]
  have in8 : ∀ (kb : Int32 → zS → Option (Int32 × zS)) (k : Nat), k ≤ 4 → f_X8_misfits_18 kb zFU (nI k) 1 s2 = ((zms n G c0 k).map (fun a => some (nI a, s2))).getD (kb (nI (k + 1)) s2) := fun kb k hk => by
    rw [zms, ← zfo_map]
    refine zsr (fun q m => f_X8_misfits_18 kb q (nI k) (nI m) s2) 1 (2 ^ n) _ _ (fun q m hl hm => ?_) (fun q => ?_) (2 ^ n - 1) 1 zFU (Nat.le_refl _) (by omega) (by show 2 ^ n - 1 < 5000; omega)
    · show f_X8_misfits_18 kb (q + 1) (nI k) (nI m) s2 = _
      have hz := zpc_le 9 m
      unfold zmsf
      rw [f_X8_misfits_18, e3, Option.bind_some, one_shl n (by omega), if_neg (nI_ge hm (by omega)), bits_512 (by omega), zbd_some, ztw_eq]
      by_cases e : zpc 9 m = k
      · rw [if_neg (fun z => z (by rw [e])), rd_94 s2 m rfl (by omega), Option.bind_some, b2 m hl hm]
        by_cases hf : zfs n G c0 m = true
        · rw [if_pos hf, if_pos (by decide), f_X8_misfits_57, zb_eq, nI_1]
          simp [hf]
        · rw [if_neg hf, if_neg (fun z => z rfl), each8 hZ2 b2 (by omega), zbd_some]
          by_cases hw : ztw8 n G c0 m = true
          · rw [if_pos hw, if_neg (by decide)]
            simp [e, hf, hw]
          · rw [if_neg hw, if_pos rfl, f_X8_misfits_57, zb_eq, nI_1]
            simp [hw]
      · rw [if_pos (ne_of_nI e (by omega) (by omega)), f_X8_misfits_57, zb_eq, nI_1]
        simp [e]
    · show f_X8_misfits_18 kb (q + 1) (nI k) (nI (2 ^ n)) s2 = _
      rw [f_X8_misfits_18, e3, Option.bind_some, one_shl n (by omega), if_pos (nI_le (Nat.le_refl _) (by omega)), zb_eq, nI_1]
  have r8 : f_X8_misfits_11 zFU (nI 3) s2 = ((zfo (zms n G c0) 2 3).map (fun a => some (nI a, s2))).getD (some ((0 : Int32), s2)) := by
    rw [← zfo_map]
    refine zsr (fun q k => f_X8_misfits_11 q (nI k) s2) 3 5 _ _ (fun q k hl hk => ?_) (fun q => ?_) 2 3 zFU (Nat.le_refl _) (by omega) (by decide)
    · show f_X8_misfits_11 (q + 1) (nI k) s2 = _
      rw [f_X8_misfits_11, if_neg (nI_nlt (by omega) (by omega)), in8 _ k (by omega)]
    · show f_X8_misfits_11 (q + 1) (nI 5) s2 = _
      rw [f_X8_misfits_11, if_pos (by decide)]
  refine ⟨((zfo (zms n G c0) 2 3).map nI).getD 0, s1, s2, ?_, ?_, hK.r a1 a2, a2.mono (by decide), zk_m.th.tr (b3.mono (by decide)), by rw [(b3.1 93 (by decide)).1, zs_i_n _ _ _ _ _ (by decide)]⟩
  · rw [f_X7_misfits]
    refine Eq.trans a3 ?_
    cases zfo (zms n G c0) 2 3 <;> rfl
  · rw [f_X8_misfits, zb_eq, b1, zbd_some, r8]
    cases zfo (zms n G c0) 2 3 <;> rfl
theorem low_bits : ∀ p, p < 7 → ∀ m, m < 128 → m.testBit p = true → zpc 9 (m &&& (2 ^ p - 1)) < zpc 9 m := by decide +kernel
theorem i1 (p : Nat) : nI (2 ^ p) - (1 : Int32) = nI (2 ^ p - 1) := pk_sub (b := 1) (Nat.one_le_two_pow)
theorem q_monogram (hN : JNx s n G M H D c0 c1) (hK : JK s n G M H c0 c1 A B) (a b : Int32) : QR (f_X7_monogram a b) (f_X8_monogram a b) s n G M H c0 c1 A B := by
  have hn := hN.1.1
  have h128 := pow_128 hn
  have no3 : ∀ (v3 v4 : Int32), (f_X5_hasAll_3 a s = some (0, s)) → f_X7_monogram_41 a v3 v4 s = some (-3, s) := fun v3 v4 h => by
    rw [f_X7_monogram_41, bc_all, zbd_some, h, zbd_some, if_pos rfl]; rfl
  -- a set that may not be
  have bad : ∀ (v3 v4 v2 : Int32) (m : Nat), m < 2 ^ n → a = nI m → f_X5_hasAll_3 a s = some (1, s) → (∀ t, JNx t n G M H D c0 c1 → f_X8_isSet a t = some (1, t)) → (m = 0 ∨ 4 < zpc 9 m) → f_X7_monogram_41 a v3 v4 s = some (-3, s) ∧ f_X8_monogram_30 a v2 (zs_i s 76 0 0) = some (-3, zs_i s 76 0 0) := by
    intro v3 v4 v2 m hm e h1 h2 h0
    subst e
    have hz := zpc_le 9 m
    constructor
    · rw [f_X7_monogram_41, bc_ok s (by omega), zbd_some, h1, zbd_some, if_neg (by decide)]
      rcases h0 with rfl | h0
      · rw [if_pos (by decide)]; rfl
      · rw [if_neg (show ¬ nI (zpc 9 m) < (1 : Int32) from nlt_c 1 rfl (by omega) (by omega)), if_neg (nI_ge (by omega) (by omega))]; rfl
    · rw [f_X8_monogram_30, h2 _ hN.th, zbd_some, if_neg (by decide), bits_512 (by omega), zbd_some, wi_ok]
      rcases h0 with rfl | h0
      · rw [if_neg (by decide), zbd_some, if_neg (fun z => z rfl)]; rfl
      · rw [if_neg (fun z => by
          have := (l_le (x := nI (zpc 9 m)) (n := 4) rfl).mp z.2
          rw [nI_toInt (by omega)] at this
          omega), zbd_some, if_neg (fun z => z rfl)]; rfl
  have good : ∀ m, 1 ≤ m → m < 2 ^ n → zpc 9 m ≤ 4 → ∀ t, f_X8_within (nI (zpc 9 m)).toInt64 1 4 t = some (1, t) := fun m h1 hm h4 t => by
    have hp := zpc_pos m (by omega) h1
    rw [wi_ok, if_pos ⟨(l_ge (n := 1) rfl).mpr (by rw [nI_toInt (by omega)]; omega), (l_le (n := 4) rfl).mpr (by rw [nI_toInt (by omega)]; omega)⟩]
  by_cases hb0 : b = 0
  · subst hb0
    have e7 : f_X7_monogram a 0 s = f_X7_monogram_41 a (0 - nI 10) 0 s := by
      rw [f_X7_monogram, zb_eq, if_pos (by decide), f_X7_monogram_26, f_X7_monogram_27, if_pos rfl]
    have e8 : ∀ t, f_X8_monogram a 0 t = f_X8_monogram_30 a 0 (zs_i t 76 0 0) := fun t => by rw [f_X8_monogram, zb_eq, if_pos rfl]
    rcases set_cases hN a with ⟨h1, h2, -⟩ | ⟨m, hm, ea, h1, h2⟩
    · refine QR.no hK (-3) (by rw [e7]; exact no3 _ _ h1) ?_
      rw [e8, f_X8_monogram_30, h2 _ hN.th, zbd_some, if_pos rfl]; rfl
    by_cases hbad : m = 0 ∨ 4 < zpc 9 m
    · obtain ⟨z1, z2⟩ := bad (0 - nI 10) 0 0 m hm ea h1 h2 hbad
      exact QR.no hK (-3) (by rw [e7]; exact z1) (by rw [e8]; exact z2)
    · subst ea
      have h4 : (zmem m n).length ≤ 4 := by rw [← (zpc_n hn hm).2]; omega
      have hp := zpc_pos m (by omega) (by omega)
      obtain ⟨s1, a1, a2, a3, a4⟩ := cross7 hK.1.1 (show 1 ≤ m by omega) hm h4
      have hR1 : JR s1 n G M c0 c1 A B := ⟨a2, hK.1.2.1.keep a4 (by decide), hK.1.2.2.keep a4 (by decide)⟩
      have k1 : zk_k RC s s1 := a4.mono (by decide)
      have hN1 : JNx s1 n G M H D c0 c1 := hN.keep k1 (by decide)
      obtain ⟨s2, b1, b2, b3⟩ := set8 hN1.th.m (m := m) (by omega) h4
      refine ⟨nI (zcs n G m), s1, s2, ?_, ?_, hK.r hR1 k1, k1.mono (by decide), zk_m.th.tr (b3.mono (by decide)), by rw [(b3.1 93 (by decide)).1, zs_i_n _ _ _ _ _ (by decide)]⟩
      · rw [e7, f_X7_monogram_41, bc_ok s (by omega), zbd_some, h1, zbd_some, if_neg (by decide), if_neg (show ¬ nI (zpc 9 m) < (1 : Int32) from nlt_c 1 rfl (by omega) (by omega)), if_pos (nI_le (by omega) (by omega)), if_pos rfl, a1, zbd_some]; rfl
      · rw [e8, f_X8_monogram_30, h2 _ hN1.th, zbd_some, if_neg (by decide), bits_512 (by omega), zbd_some, good m (by omega) hm (by omega), zbd_some, if_pos (by decide), b1, zbd_some, if_neg (fun z => z rfl)]; rfl
  by_cases hb10 : b < nI 10
  · refine QR.no hK (-2) ?_ ?_
    · rw [f_X7_monogram, zb_eq, if_pos hb10, f_X7_monogram_26, f_X7_monogram_27, if_neg hb0, if_neg (fun z => z rfl)]
    · rw [f_X8_monogram, zb_eq, if_neg hb0, if_pos hb10]; rfl
  rcases per_cases hN (b - nI 10) with ⟨h1, h2⟩ | ⟨p, hp, ep⟩
  · refine QR.no hK (-2) ?_ ?_
    · rw [f_X7_monogram, zb_eq, if_neg hb10, h1, zbd_some, if_pos rfl, f_X7_monogram_26, f_X7_monogram_27, if_neg hb0, if_neg (fun z => z rfl)]
    · rw [f_X8_monogram, zb_eq, if_neg hb0, if_neg hb10, h2 _ hN.th, zbd_some, if_neg (fun z => z rfl)]; rfl
  have e7 : f_X7_monogram a b s = f_X7_monogram_41 a (nI p) 1 s := by
    rw [f_X7_monogram, zb_eq, if_neg hb10, ep, has_in hN hp, zbd_some, if_neg (by decide), f_X7_monogram_27, if_neg hb0, if_pos (by decide)]
  have e8 : ∀ t, JNx t n G M H D c0 c1 → f_X8_monogram a b t = f_X8_monogram_30 a b (zs_i t 76 0 0) := fun t ht => by
    rw [f_X8_monogram, zb_eq, if_neg hb0, if_neg hb10, ep, per_in ht.th hp, zbd_some, if_pos (by decide)]
  rcases set_cases hN a with ⟨h1, h2, -⟩ | ⟨m, hm, ea, h1, h2⟩
  · refine QR.no hK (-3) (by rw [e7]; exact no3 _ _ h1) ?_
    rw [e8 _ hN, f_X8_monogram_30, h2 _ hN.th, zbd_some, if_pos rfl]; rfl
  by_cases hbad : m = 0 ∨ 4 < zpc 9 m
  · obtain ⟨z1, z2⟩ := bad (nI p) 1 b m hm ea h1 h2 hbad
    exact QR.no hK (-3) (by rw [e7]; exact z1) (by rw [e8 _ hN]; exact z2)
  subst ea
  have h4 : (zmem m n).length ≤ 4 := by rw [← (zpc_n hn hm).2]; omega
  have hpp := zpc_pos m (by omega) (by omega)
  have f7 : f_X7_monogram (nI m) b s = zbd (f_X4_shiftOf (nI m) (nI p) s) fun r7 s8 => some (r7, s8) := by
    rw [e7, f_X7_monogram_41, bc_ok s (by omega), zbd_some, h1, zbd_some, if_neg (by decide), if_neg (show ¬ nI (zpc 9 m) < (1 : Int32) from nlt_c 1 rfl (by omega) (by omega)), if_pos (nI_le (by omega) (by omega)), if_neg (by decide)]; rfl
  by_cases hbp : m.testBit p = true
  · obtain ⟨s1, a1, a2, a3, a4⟩ := cross7 hK.1.1 (show 1 ≤ m by omega) hm h4
    have hR1 : JR s1 n G M c0 c1 A B := ⟨a2, hK.1.2.1.keep a4 (by decide), hK.1.2.2.keep a4 (by decide)⟩
    have k1 : zk_k RC s s1 := a4.mono (by decide)
    have hN1 : JNx s1 n G M H D c0 c1 := hN.keep k1 (by decide)
    obtain ⟨s2, b1, b2, b3⟩ := set8 hN1.th.m (m := m) (by omega) h4
    have hlow := low_bits p (by omega) m (by omega) hbp
    rw [(zpc_n hn hm).2] at hlow
    have hand : m &&& (2 ^ p - 1) < 512 := Nat.lt_of_le_of_lt Nat.and_le_left (by omega)
    have hml := (zmono_len (K := (zmem m n).map G) (by rw [List.length_map]; exact h4)).1
    rw [List.length_map] at hml
    refine ⟨nI ((zmono ((zmem m n).map G)).2.getD (zpc 9 (m &&& (2 ^ p - 1))) 0), s1, s2, ?_, ?_, hK.r hR1 k1, k1.mono (by decide), zk_m.th.tr (b3.mono (by decide)), by rw [(b3.1 93 (by decide)).1, zs_i_n _ _ _ _ _ (by decide)]⟩
    · rw [f7, f_X4_shiftOf, ush_tb (by omega) (by omega), if_pos hbp, if_pos (by decide), a1, zbd_some, one_shl p (by omega), i1, nI_and, bc_ok s1 hand, zbd_some, rd_49 s1 (4 * m + zpc 9 (m &&& (2 ^ p - 1))) (by rw [pk_mul, nI_add, Nat.mul_comm]) (by omega), Option.bind_some, a3 _ hlow, zbd_some]
    · rw [e8 _ hN1, f_X8_monogram_30, h2 _ hN1.th, zbd_some, if_neg (by decide), bits_512 (by omega), zbd_some, good m (by omega) hm (by omega), zbd_some, if_pos (by decide), b1, zbd_some, if_pos hb0, ep, in_ok s2 (by omega) (by omega), zbd_some, if_pos hbp, if_pos (by decide), one_shl p (by omega), i1, nI_and, bits_512 hand, zbd_some, rd_84 s2 (zpc 9 (m &&& (2 ^ p - 1))) rfl (by omega), Option.bind_some, b2.2.2.2 _ (by omega)]
  · obtain ⟨s2, b1, b2, b3⟩ := set8 hN.th.m (m := m) (by omega) h4
    refine ⟨-1, s, s2, ?_, ?_, hK, zk_k.rf, zk_m.th.tr (b3.mono (by decide)), by rw [(b3.1 93 (by decide)).1, zs_i_n _ _ _ _ _ (by decide)]⟩
    · rw [f7, f_X4_shiftOf, ush_tb (by omega) (by omega), if_neg hbp, if_neg (fun z => z rfl), zbd_some]
    · rw [e8 _ hN, f_X8_monogram_30, h2 _ hN.th, zbd_some, if_neg (by decide), bits_512 (by omega), zbd_some, good m (by omega) hm (by omega), zbd_some, if_pos (by decide), b1, zbd_some, if_pos hb0, ep, in_ok s2 (by omega) (by omega), zbd_some, if_neg hbp, if_neg (fun z => z rfl)]
end SETS2
