theorem wc_ok {s : zS} {a b sp dp m : Nat} {x y z : Int32} {na nb : Nat} (hda : zk_d a = 0) (hdb : zk_d b = 0) (hna : zk_n a = na) (hnb : zk_n b = nb) (hx : x = nI sp) (hy : y = nI dp) (hz : z = nI m) (h1 : sp + m ≤ na) (h2 : dp + m ≤ nb) (hs : sp < 2 ^ 31) (hd : dp < 2 ^ 31) (hm : m < 2 ^ 31) : zw_c s a x b y z = some (zs_c s a sp b dp m) := by
  subst hx hy hz
  rw [zw_c, nI_clamp hs, nI_clamp hd, nI_clamp hm, if_pos ⟨⟨hda, hdb⟩, ⟨nI_pos hs, nI_pos hd, nI_pos hm⟩, by rw [hna]; exact h1, by rw [hnb]; exact h2⟩]
theorem zsc_k {s : zS} {a b sp dp m : Nat} {S : List Nat} (hb : b ∈ S) : zk_k S s (zs_c s a sp b dp m) := fun q hq => by
  have : q ≠ b := fun e => hq (e ▸ hb)
  exact ⟨by simp [zs_c, this], rfl⟩
theorem zsc_in {s : zS} {a b sp dp m j : Nat} (h1 : dp ≤ j) (h2 : j < dp + m) : (zs_c s a sp b dp m).1 b j = s.1 a (sp + (j - dp)) := by
  simp only [zs_c, if_true]
  exact pk_cpy_in h1 h2
theorem zsc_out {s : zS} {a b sp dp m j : Nat} (h : j < dp ∨ dp + m ≤ j) : (zs_c s a sp b dp m).1 b j = s.1 b j := by
  simp only [zs_c, if_true]
  exact pk_cpy_out h
/-- ages of a set -/
def zag (A : Nat → Nat) (m : Nat) : Nat := zsum 7 (fun p => if m.testBit p then A p else 0)
theorem zag_le {s : zS} {A B : Nat → Nat} (hA : JA s A B) (m : Nat) : zag A m < 2 ^ 27 := by
  have : zag A m ≤ 7 * (2 ^ 24 - 1) := zsum_le 7 (fun p hp => by
    have := (hA p hp).2.2.2.1
    split <;> omega)
  omega
theorem sage7 {s : zS} {A B : Nat → Nat} (hA : JA s A B) {m : Nat} (hm : m < 1024) : f_X5_signAgeOf_3 (nI m) s = some (nI (zag A m), s) := by
  obtain ⟨q', u, g1, -⟩ := zlp (fun q i (_ : Unit) => f_X5_signAgeOf_3_4 q (nI m) (nI (zsum i (fun p => if m.testBit p then A p else 0))) (nI i) s) 7 (fun _ _ => True)
    (fun q i _ hi _ => by
      refine ⟨(), ?_, trivial⟩
      show f_X5_signAgeOf_3_4 (q + 1) (nI m) (nI (zsum i (fun p => if m.testBit p then A p else 0))) (nI i) s = f_X5_signAgeOf_3_4 q (nI m) (nI (zsum i (fun p => if m.testBit p then A p else 0) + (if m.testBit i then A i else 0))) (nI (i + 1)) s
      rw [f_X5_signAgeOf_3_4, if_neg (nI_ge hi (by omega)), ush_tb (by omega) hm]
      by_cases h : m.testBit i = true
      · rw [if_pos h, if_pos h, if_neg (fun z => z rfl), rd_10 s i rfl hi, Option.bind_some, (hA i hi).1, zb_eq, nI_add, f_X5_signAgeOf_3_28, zb_eq, nI_1]
      · rw [if_neg h, if_neg h, if_pos (by decide), f_X5_signAgeOf_3_28, zb_eq, nI_1] <;> rfl) 7 0 zFU () (by decide) (by decide) trivial
  have g1' : f_X5_signAgeOf_3 (nI m) s = f_X5_signAgeOf_3_4 (q' + 1) (nI m) (nI (zag A m)) (nI 7) s := g1
  rw [g1', f_X5_signAgeOf_3_4, if_pos (nI_le (Nat.le_refl _) (by omega))]
section MEM7
variable {n : Nat} {G M A B : Nat → Nat} {c0 c1 : List Nat}
/-- members taken, and each two of them known -/
def ZT7 (s : zS) (A : Nat → Nat) (L : List Nat) : Prop := s.1 42 14 = nI L.length ∧ (∀ i, i < L.length → s.1 55 i = nI (L.getD i 0)) ∧ ∀ i j, i < j → j < L.length → s.1 45 (7 * L.getD i 0 + L.getD j 0) = nI (A (L.getD i 0) + A (L.getD j 0))
theorem zmem_pw (m : Nat) : ∀ k i j, i < j → j < (zmem m k).length → (zmem m k).getD i 0 < (zmem m k).getD j 0 := by
  intro k
  induction k with
  | zero => intro i j _ h; simp [zmem] at h
  | succ k ih =>
    intro i j hij hj
    rw [zmem] at hj ⊢
    by_cases h : m.testBit k = true
    · rw [if_pos h] at hj ⊢
      simp only [List.length_append, List.length_singleton] at hj
      rw [gd_lt _ _ _ (by omega)]
      by_cases e : j = (zmem m k).length
      · subst e
        rw [gd_eq]
        exact ((zmem_lt m k _).mp (gd_mem _ 0 hij)).1
      · rw [gd_lt _ _ _ (by omega)]
        exact ih i j hij (by omega)
    · rw [if_neg h] at hj ⊢
      exact ih i j hij hj
theorem zmem_top {m n : Nat} (hm : m < 2 ^ n) : ∀ j, zmem m (n + j) = zmem m n := by
  intro j
  induction j with
  | zero => rfl
  | succ j ih =>
    show zmem m (n + j + 1) = _
    rw [zmem, Nat.testBit_lt_two_pow (Nat.lt_of_lt_of_le hm (Nat.pow_le_pow_right (by decide) (by omega)))]
    exact ih
theorem tm7_32 (kb : Int32 → Int32 → zS → Option (Unit × zS)) {m p : Nat} {s : zS} (hp : p < n) (h4 : (zmem m p).length < 4) (hZ : ZK s n G M c0 c1) (hA : JA s A B) (hC : JC1 s n G A) (hT : ZT7 s A (zmem m p)) :
    ∃ s', f_X4_takeMembers_32 kb zFU (nI m) (nI p) 0 s = kb (nI m) (nI (p + 1)) s' ∧ JC1 s' n G A ∧ ZT7 s' A (zmem m p ++ [p]) ∧ zk_k [42, 43, 44, 45, 55] s s' := by
  have hn := hZ.1
  obtain ⟨q', s1, g1, g2, g3, g4, g5⟩ := zlp (fun q i s => f_X4_takeMembers_32 kb q (nI m) (nI p) (nI i) s) (zmem m p).length (fun i t => zk_k [43, 44, 45] s t ∧ JC1 t n G A ∧ (∀ a b, a < b → b < p → t.1 45 (7 * a + b) = s.1 45 (7 * a + b)) ∧ ∀ k, k < i → t.1 45 (7 * (zmem m p).getD k 0 + p) = nI (A ((zmem m p).getD k 0) + A p))
    (fun q i t hi h => by
      show ∃ a', f_X4_takeMembers_32 kb (q + 1) (nI m) (nI p) (nI i) t = f_X4_takeMembers_32 kb q (nI m) (nI p) (nI (i + 1)) a' ∧ _
      have hZ1 := hZ.keep h.1 (by decide)
      have hA1 := hA.keep h.1 (by decide)
      have e42 := (h.1 42 (by decide)).1
      have e55 := (h.1 55 (by decide)).1
      have hlt : (zmem m p).getD i 0 < p := ((zmem_lt m p _).mp (gd_mem _ 0 hi)).1
      obtain ⟨t2, a1, a2, a3, a4, a5⟩ := few7_lt hZ1 hA1 h.2.1 (p := (zmem m p).getD i 0) (q := p) hlt hp
      rw [f_X4_takeMembers_32, e42, hT.1, if_neg (nI_ge hi (by omega)), rd_55 t i rfl (by omega), Option.bind_some, e55, hT.2.1 i hi, a1, zbd_some, zb_eq, nI_1]
      refine ⟨t2, rfl, h.1.tr a5, a2, fun a b hab hb => ?_, fun k hk => ?_⟩
      · rw [a4 _ (by omega)]; exact h.2.2.1 a b hab hb
      · by_cases e : k = i
        · subst e; exact a3
        · have h1 := zmem_pw m p k i (by omega) hi
          rw [a4 _ (by omega)]; exact h.2.2.2 k (by omega)) (zmem m p).length 0 zFU s (by omega) (by show (zmem m p).length < 5000; omega) ⟨zk_k.rf, hC, fun _ _ _ _ => rfl, fun k hk => by omega⟩
  have g1' : f_X4_takeMembers_32 kb zFU (nI m) (nI p) 0 s = f_X4_takeMembers_32 kb (q' + 1) (nI m) (nI p) (nI (zmem m p).length) s1 := g1
  have e42 := (g2 42 (by decide)).1
  have e55 := (g2 55 (by decide)).1
  rw [g1', f_X4_takeMembers_32, e42, hT.1, if_pos (nI_le (Nat.le_refl _) (by omega)), wr_55 s1 (zmem m p).length rfl (by omega), Option.bind_some, zb_eq, zs_i_n _ _ _ _ _ (by decide : (42 : Nat) ≠ 55), e42, hT.1, nI_1, f_X4_takeMembers_78, zb_eq, nI_1]
  refine ⟨_, rfl, g3.keep ((zk_k.rf.i (S := [42, 55]) (by simp)).i (by simp)) (by decide), ⟨by rw [zs_i_v]; simp, fun i hi => ?_, fun i j hij hj => ?_⟩, ((g2.mono (by simp)).i (by simp)).i (by simp)⟩
  · simp only [List.length_append, List.length_singleton] at hi
    rw [zs_i_n _ _ _ _ _ (by decide)]
    by_cases e : i = (zmem m p).length
    · subst e; rw [zs_i_v, gd_eq]
    · rw [zs_i_o _ _ _ _ _ e, gd_lt _ _ _ (by omega), e55]
      exact hT.2.1 i (by omega)
  · simp only [List.length_append, List.length_singleton] at hj
    rw [zs_i_n _ _ _ _ _ (by decide), zs_i_n _ _ _ _ _ (by decide), gd_lt _ _ _ (show i < (zmem m p).length by omega)]
    by_cases e : j = (zmem m p).length
    · subst e; rw [gd_eq]; exact g5 i (by omega)
    · rw [gd_lt _ _ _ (by omega), g4 _ _ (zmem_pw m p i j hij (by omega)) ((zmem_lt m p _).mp (gd_mem _ 0 (by omega))).1]
      exact hT.2.2 i j hij (by omega)
theorem tm7_7 {m : Nat} (hn7 : n ≤ 7) (hm : m < 2 ^ n) (h4 : (zmem m n).length ≤ 4) : ∀ (j p q : Nat) (s : zS), p + j = 7 → j < q → ZK s n G M c0 c1 → JA s A B → JC1 s n G A → ZT7 s A (zmem m p) → ∃ s', f_X4_takeMembers_7 q (nI m) (nI p) s = some ((), s') ∧ JC1 s' n G A ∧ ZT7 s' A (zmem m n) ∧ zk_k [42, 43, 44, 45, 55] s s' := by
  have h128 := pow_128 hn7
  have h7 : zmem m 7 = zmem m n := by
    have := zmem_top hm (7 - n)
    rw [show n + (7 - n) = 7 by omega] at this
    exact this
  intro j
  induction j with
  | zero =>
    intro p q s hp hq hZ hA hC hT
    obtain ⟨q, rfl⟩ : ∃ r, q = r + 1 := ⟨q - 1, by omega⟩
    have e : p = 7 := by omega
    subst e
    rw [f_X4_takeMembers_7, if_pos (nI_le (Nat.le_refl _) (by omega))]
    exact ⟨s, rfl, hC, h7 ▸ hT, zk_k.rf⟩
  | succ j ih =>
    intro p q s hp hq hZ hA hC hT
    obtain ⟨q, rfl⟩ : ∃ r, q = r + 1 := ⟨q - 1, by omega⟩
    have hle : (zmem m p).length ≤ 4 := by
      have h5 := zpc_mono m p (7 - p)
      rw [show p + (7 - p) = 7 by omega, ← zmem_len, ← zmem_len, h7] at h5
      omega
    rw [f_X4_takeMembers_7, if_neg (nI_ge (by omega) (by omega)), hT.1]
    by_cases hf : (zmem m p).length = 4
    · rw [if_pos (nI_le (by omega) (by omega))]
      have same : ∀ k, p + k ≤ 7 → zmem m (p + k) = zmem m p := by
        intro k
        induction k with
        | zero => intro _; rfl
        | succ k ihk =>
          intro hk
          have e := ihk (by omega)
          have h5 := zpc_mono m (p + k + 1) (7 - (p + k + 1))
          rw [show p + k + 1 + (7 - (p + k + 1)) = 7 by omega, ← zmem_len, ← zmem_len, h7] at h5
          show zmem m (p + k + 1) = _
          rw [zmem] at h5 ⊢
          by_cases hb : m.testBit (p + k) = true
          · rw [if_pos hb] at h5
            simp only [List.length_append, List.length_singleton] at h5
            rw [e] at h5
            omega
          · rw [if_neg hb]; exact e
      have e := same (7 - p) (by omega)
      rw [show p + (7 - p) = 7 by omega, h7] at e
      exact ⟨s, rfl, hC, e ▸ hT, zk_k.rf⟩
    · rw [if_neg (nI_ge (by omega) (by omega)), ush_tb (by omega) (by omega)]
      by_cases hb : m.testBit p = true
      · have hpn : p < n := by
          refine Nat.lt_of_not_le (fun h => ?_)
          rw [Nat.testBit_lt_two_pow (Nat.lt_of_lt_of_le hm (Nat.pow_le_pow_right (by decide) h))] at hb
          cases hb
        obtain ⟨s1, a1, a2, a3, a4⟩ := tm7_32 (f_X4_takeMembers_7 q) (m := m) hpn (by omega) hZ hA hC hT
        rw [if_pos hb, if_neg (fun z => z rfl), a1]
        obtain ⟨s2, b1, b2, b3, b4⟩ := ih (p + 1) q s1 (by omega) (by omega) (hZ.keep a4 (by decide)) (hA.keep a4 (by decide)) a2 (by rw [zmem, if_pos hb]; exact a3)
        exact ⟨s2, b1, b2, b3, a4.tr b4⟩
      · rw [if_neg hb, if_pos (by decide), f_X4_takeMembers_78, zb_eq, nI_1]
        exact ih (p + 1) q s (by omega) (by omega) hZ hA hC (by rw [zmem, if_neg hb]; exact hT)
theorem tm7 {m : Nat} {s : zS} (hm : m < 2 ^ n) (h4 : (zmem m n).length ≤ 4) (hZ : ZK s n G M c0 c1) (hA : JA s A B) (hC : JC1 s n G A) : ∃ s', f_X4_takeMembers (nI m) s = some ((), s') ∧ JC1 s' n G A ∧ ZT7 s' A (zmem m n) ∧ zk_k [42, 43, 44, 45, 55] s s' := by
  have k1 : zk_k [42, 43, 44, 45, 55] s (zs_i s 42 14 0) := zk_k.rf.i (by simp)
  have k2 : zk_k [42] s (zs_i s 42 14 0) := zk_k.rf.i (by simp)
  rw [f_X4_takeMembers, zb_eq]
  obtain ⟨s', g1, g2, g3, g4⟩ := tm7_7 (G := G) (M := M) (A := A) (B := B) (c0 := c0) (c1 := c1) hZ.1 hm h4 7 0 zFU (zs_i s 42 14 0) (by decide) (by decide) (hZ.keep k2 (by decide)) (hA.keep k2 (by decide)) (hC.keep k2 (by decide)) ⟨by rw [zs_i_v]; rfl, fun i hi => absurd hi (by simp [zmem]), fun i j _ hj => absurd hj (by simp [zmem])⟩
  exact ⟨s', g1, g2, g3, k1.tr g4⟩
end MEM7
