theorem lxE_q {P : Nat → Bool} {L : Nat} : ∀ k p, L - p ≤ k → ∀ q, p ≤ q → q < lxE P L p → P q = true := by
  intro k
  induction k with
  | zero =>
    intro p hk q h1 h2
    rw [lxE_n (fun z => by omega)] at h2
    omega
  | succ k ih =>
    intro p hk q h1 h2
    by_cases h : p < L ∧ P p = true
    · rw [lxE_s h.1 h.2] at h2
      by_cases e : q = p
      · rw [e]; exact h.2
      · exact ih (p + 1) (by omega) q (by omega) h2
    · rw [lxE_n h] at h2; omega
/-- starts of tokens -/
def lxB (b : Nat → Nat) (L : Nat) : Nat → Nat
  | 0 => lxE (fun i => lxS (b i)) L 0
  | k + 1 => if lxB b L k < L then lxE (fun i => lxS (b i)) L (lxN b L (lxB b L k)) else L
section SPLIT
variable {b : Nat → Nat} {L p e : Nat} {s : zS}
theorem lxU_lt : ∀ i, (∀ k, k < i → lxD (b (p + k)) = true) → lxU b p i < 10 ^ i := by
  intro i
  induction i with
  | zero => intro _; exact Nat.one_pos
  | succ i ih =>
    intro h
    have h1 := ih (fun k hk => h k (by omega))
    have h2 := h i (by omega)
    unfold lxD at h2
    have h3 := of_decide_eq_true h2
    unfold lxU
    rw [Nat.pow_succ]
    omega
theorem num7 (hT : T7 s b L) (hpe : p ≤ e) (he : e ≤ L) (h3 : e - p ≤ 3) (hd : ∀ q, p ≤ q → q < e → lxD (b q) = true) : ∀ (k i f : Nat), i + k = e - p → k < f → f_X3_tokenOf_30 f 1 (nI p) (nI e) (nI (lxU b p i)) (nI (p + i)) s = some (nI (lxU b p (e - p)), s) := by
  have hL := hT.1
  have hs : nI e - nI p = nI (e - p) := pk_sub hpe
  intro k
  induction k with
  | zero =>
    intro i f hi hf
    obtain ⟨f, rfl⟩ : ∃ r, f = r + 1 := ⟨f - 1, by omega⟩
    have : i = e - p := by omega
    subst this
    rw [f_X3_tokenOf_30, if_pos (nI_le (by omega) (by omega)), f_X3_tokenOf_62, hs, if_neg (show ¬ nI 3 < nI (e - p) from nI_nlt h3 (by decide))]; rfl
  | succ k ih =>
    intro i f hi hf
    obtain ⟨f, rfl⟩ : ∃ r, f = r + 1 := ⟨f - 1, by omega⟩
    obtain ⟨b1, b2⟩ := hT.2 (p + i) (by omega)
    have hdi := of_decide_eq_true (show decide (48 ≤ b (p + i) ∧ b (p + i) ≤ 57) = true from hd (p + i) (by omega) (by omega))
    have eb : lxb (b (p + i)) = nI (b (p + i)) := ((by_1 _ b1).2.2.2.2.2 (b (p + i)) (by omega)).mpr rfl
    have ev : nI 10 * nI (lxU b p i) + nI (b (p + i)) - nI 48 = nI (lxU b p (i + 1)) := by
      rw [pk_mul, nI_add, pk_sub (by omega)]
      show nI _ = nI (10 * lxU b p i + (b (p + i) - 48))
      rw [show 10 * lxU b p i + b (p + i) - 48 = 10 * lxU b p i + (b (p + i) - 48) by omega]
    rw [f_X3_tokenOf_30, if_neg (nI_ge (by omega) (by omega)), hs, if_neg (show ¬ nI 3 < nI (e - p) from nI_nlt h3 (by decide)), rd_1 s (p + i) rfl (by omega), Option.bind_some, b2, eb, zb_eq, zb_eq, ev, nI_1, show p + i + 1 = p + (i + 1) by omega]
    exact ih (i + 1) f (by omega) (by omega)
theorem lxZ_r (c : Nat) : ∀ i, lxZ c i = 25 ∨ (30 ≤ lxZ c i ∧ lxZ c i < 30 + i) := by
  intro i
  induction i with
  | zero => exact Or.inl rfl
  | succ i ih =>
    unfold lxZ
    split
    · exact Or.inr ⟨by omega, by omega⟩
    · rcases ih with e | ⟨e1, e2⟩
      · exact Or.inl e
      · exact Or.inr ⟨e1, by omega⟩
theorem lxK_v {k : Nat} (h : k ≠ 23) (v : Nat) : lxK k v = lxK k 0 := by
  unfold lxK
  rw [if_neg h, if_neg h]
theorem lxI_22 (t : List Nat) : lxI t lxW 0 22 < 17 ∨ lxI t lxW 0 22 = 22 := by
  rcases lxI_lt (t := t) (d := 22) lxW 0 with e | ⟨-, e⟩
  · exact Or.inr e
  · exact Or.inl (by have : lxW.length = 17 := rfl; omega)
theorem tokof7 (hT : T7 s b L) (hp : p < L) : f_X3_tokenOf 1 (nI p) (nI (lxN b L p)) s = some (nI (lxK (lxY b L p) (lxQ b L p)), s) := by
  have hL := hT.1
  obtain ⟨n1, n2⟩ := lxN_b (b := b) hp
  obtain ⟨b1, b2⟩ := hT.2 p hp
  unfold lxY
  rw [f_X3_tokenOf, rd_1 s p rfl (by omega), Option.bind_some, b2, let7 b1, zbd_some, if_neg (show ¬ L ≤ p by omega)]
  by_cases h : lxL (b p) = true
  · have h22 := lxI_22 (lxT b p (lxN b L p))
    rw [if_pos h, if_pos h, if_neg (by decide), wordof7 hT (by omega) n2, zbd_some, lxK_v (by omega), lxK_w]
  · rw [if_neg h, if_neg h, if_pos rfl, rd_1 s p rfl (by omega), Option.bind_some, b2, dig7 b1, zbd_some]
    by_cases h2 : lxD (b p) = true
    · rw [if_pos h2, if_pos h2, if_neg (by decide)]
      have en : lxN b L p = lxE (fun i => lxD (b i)) L (p + 1) := by unfold lxN; rw [if_neg h, if_pos h2]
      by_cases h3 : lxN b L p - p ≤ 3
      · rw [if_pos h3]
        have := num7 hT (Nat.le_of_lt n1) n2 h3 (fun q h4 h5 => by
          by_cases e : q = p
          · rw [e]; exact h2
          · exact lxE_q (P := fun i => lxD (b i)) (L := L) L (p + 1) (by omega) q (by omega) (by rw [← en]; exact h5)) (lxN b L p - p) 0 zFU (by omega) (show lxN b L p - p < 5000 by omega)
        rw [Nat.add_zero] at this
        exact this
      · rw [if_neg h3]
        show f_X3_tokenOf_30 (4999 + 1) 1 (nI p) (nI (lxN b L p)) 0 (nI p) s = _
        rw [f_X3_tokenOf_30, if_neg (nI_ge n1 (by omega)), pk_sub (Nat.le_of_lt n1), if_pos (show nI 3 < nI (lxN b L p - p) from nI_lt (by omega) (by omega)), f_X3_tokenOf_62, pk_sub (Nat.le_of_lt n1), if_pos (show nI 3 < nI (lxN b L p - p) from nI_lt (by omega) (by omega))]; rfl
    · rw [if_neg h2, if_neg h2, if_pos rfl, rd_1 s p rfl (by omega), Option.bind_some, b2, index7 b1, zbd_some]
      have hz := lxZ_r (b p) 12
      have hg := lx_sg (b p) b1
      rw [lxK_v (by omega), ← hg]
      split <;> rfl
theorem split7 (hT : T7 s b L) : ∀ (m p k f : Nat) (t : zS), L - p ≤ m → p ≤ L → m < f → k ≤ p → lxE (fun i => lxS (b i)) L p = lxB b L k → zk_k [40, 41] s t → (∀ i, i < k → lxB b L i < L ∧ t.1 40 i = nI (lxK (lxY b L (lxB b L i)) (lxQ b L (lxB b L i))) ∧ t.1 41 i = nI (lxB b L i)) → ∃ N t', f_X3_splitText_5 f 1 (nI L) (nI k) (nI p) t = some ((), t') ∧ zk_k [40, 41] s t' ∧ N ≤ L ∧ lxB b L N = L ∧ (∀ i, i < N → lxB b L i < L) ∧ ∀ i, i ≤ N → t'.1 40 i = nI (lxK (lxY b L (lxB b L i)) (lxQ b L (lxB b L i))) ∧ t'.1 41 i = nI (lxB b L i) := by
  have hL := hT.1
  intro m
  induction m with
  | zero =>
    intro p k f t hm hp hf hk hB hz hv
    obtain ⟨f, rfl⟩ : ∃ r, f = r + 1 := ⟨f - 1, by omega⟩
    have ep : p = L := by omega
    subst ep
    rw [lxE_n (fun z => by omega)] at hB
    refine ⟨k, zs_i (zs_i t 40 k (nI 1000)) 41 k (nI p), ?_, (hz.i (by simp)).i (by simp), hk, hB.symm, fun i hi => (hv i hi).1, fun i hi => ?_⟩
    · rw [f_X3_splitText_5, if_pos (nI_le (Nat.le_refl _) (by omega)), wr_40 t k rfl (by omega), Option.bind_some, wr_41 _ k rfl (by omega), Option.bind_some]
    · by_cases e : i = k
      · subst e
        rw [zs_i_v, zs_i_n _ _ _ _ _ (by decide), zs_i_v, ← hB]
        refine ⟨?_, rfl⟩
        unfold lxY
        rw [if_pos (Nat.le_refl _)]
        rfl
      · have e1 : (zs_i (zs_i t 40 k (nI 1000)) 41 k (nI p)).1 40 i = t.1 40 i := by rw [zs_i_n _ _ _ _ _ (by decide), zs_i_o _ _ _ _ _ e]
        have e2 : (zs_i (zs_i t 40 k (nI 1000)) 41 k (nI p)).1 41 i = t.1 41 i := by rw [zs_i_o _ _ _ _ _ e, zs_i_n _ _ _ _ _ (by decide)]
        rw [e1, e2]
        exact (hv i (by omega)).2
  | succ m ih =>
    intro p k f t hm hp hf hk hB hz hv
    by_cases h : p < L
    · obtain ⟨f, rfl⟩ : ∃ r, f = r + 1 := ⟨f - 1, by omega⟩
      have hTt : T7 t b L := ⟨hL, fun i hi => by rw [(hz 1 (by decide)).1]; exact hT.2 i hi⟩
      obtain ⟨b1, b2⟩ := hTt.2 p h
      have ea := (by_1 _ b1).1
      have mx : ∀ (q : Nat) (u : zS), p + 1 ≤ q → q < 2 ^ 31 → f_J9_max_7cf53 (nI q) (nI (p + 1)) u = some (nI q, u) := fun q u hq hq2 => by
        unfold f_J9_max_7cf53 f_J9_max_7cf53_10
        rw [if_neg (nI_nlt hq hq2)]
      rw [f_X3_splitText_5, if_neg (nI_ge h (by omega)), rd_1 t p rfl (by omega), Option.bind_some, b2, ea, zb_eq, zb_eq, nI_1]
      by_cases hs : lxS (b p) = true
      · have hs2 := of_decide_eq_true (show decide (b p = 10 ∨ b p = 32) = true from hs)
        have go : f_X3_splitText_82 (f_X3_splitText_5 f) 1 (nI L) (nI k) (nI (p + 1)) (nI p) t = f_X3_splitText_5 f 1 (nI L) (nI k) (nI (p + 1)) t := by
          rw [f_X3_splitText_82, nI_1, mx _ _ (Nat.le_refl _) (by omega), zbd_some]
        have r := ih (p + 1) k f t (by omega) (by omega) (by omega) (by omega) (by rw [← lxE_s h hs]; exact hB) hz hv
        rw [← go] at r
        rcases hs2 with e | e
        · rw [if_pos (by rw [e])]; exact r
        · rw [if_neg (by rw [e]; decide), if_pos (by rw [e])]; exact r
      · have hs2 : ¬ (b p = 10 ∨ b p = 32) := fun z => hs (decide_eq_true z)
        rw [lxE_n (P := fun i => lxS (b i)) (L := L) (p := p) (fun z => hs z.2)] at hB
        obtain ⟨n1, n2⟩ := lxN_b (b := b) h
        rw [if_neg (ne_of_nI (fun z => hs2 (Or.inl z)) (by omega) (by omega)), if_neg (ne_of_nI (fun z => hs2 (Or.inr z)) (by omega) (by omega)), if_neg (nI_ge (by omega) (by omega)), tokend7 hTt h, zbd_some, tokof7 hTt h, zbd_some, wr_40 t k rfl (by omega), Option.bind_some, wr_41 _ k rfl (by omega), Option.bind_some, zb_eq, nI_1, f_X3_splitText_82, nI_1, mx _ _ (by omega) (by omega), zbd_some]
        refine ih (lxN b L p) (k + 1) f _ (by omega) n2 (by omega) (by omega) ?_ ((hz.i (by simp)).i (by simp)) (fun i hi => ?_)
        · show _ = if lxB b L k < L then lxE (fun i => lxS (b i)) L (lxN b L (lxB b L k)) else L
          rw [← hB, if_pos h]
        · by_cases e : i = k
          · subst e
            rw [zs_i_v, zs_i_n _ _ _ _ _ (by decide), zs_i_v, ← hB]
            exact ⟨h, rfl, rfl⟩
          · have e1 : ∀ x y : Int32, (zs_i (zs_i t 40 k x) 41 k y).1 40 i = t.1 40 i := fun x y => by rw [zs_i_n _ _ _ _ _ (by decide), zs_i_o _ _ _ _ _ e]
            have e2 : ∀ x y : Int32, (zs_i (zs_i t 40 k x) 41 k y).1 41 i = t.1 41 i := fun x y => by rw [zs_i_o _ _ _ _ _ e, zs_i_n _ _ _ _ _ (by decide)]
            rw [e1, e2]
            exact hv i (by omega)
    · exact ih p k f t (by omega) hp (by omega) hk hB hz hv
end SPLIT
