/-- signs: the reference's kind behind i of them, the class's place -/
def lxZ (c : Nat) : Nat → Nat
  | 0 => 25
  | i + 1 => if c = lxc 1 i then 30 + i else lxZ c i
def lxj (c : Nat) : Nat → Int32
  | 0 => -1
  | k + 1 => if lxc 1 (12 - (k + 1)) = c then nI (12 - (k + 1)) else lxj c k
theorem lx_sg : ∀ c, c < 256 → (if lxj c 12 < 0 then nI 1001 else nI 1100 + lxj c 12) = nI (lxK (lxZ c 12) 0) := by decide +kernel
/-- a number's value, an end, a kind, a value -/
def lxU (b : Nat → Nat) (p : Nat) : Nat → Nat
  | 0 => 0
  | i + 1 => 10 * lxU b p i + (b (p + i) - 48)
def lxN (b : Nat → Nat) (L p : Nat) : Nat := if lxL (b p) then lxE (fun i => lxL (b i)) L (p + 1) else if lxD (b p) then lxE (fun i => lxD (b i)) L (p + 1) else p + 1
def lxY (b : Nat → Nat) (L p : Nat) : Nat := if L ≤ p then 24 else if lxL (b p) then lxI (lxT b p (lxN b L p)) lxW 0 22 else if lxD (b p) then (if lxN b L p - p ≤ 3 then 23 else 25) else lxZ (b p) 12
def lxQ (b : Nat → Nat) (L p : Nat) : Nat := lxU b p (lxN b L p - p)
section TOK
variable {b : Nat → Nat} {L p e : Nat} {s : zS}
theorem lxN_b (hp : p < L) : p < lxN b L p ∧ lxN b L p ≤ L := by
  unfold lxN
  split
  · obtain ⟨h1, h2, -⟩ := lxE_b (P := fun i => lxL (b i)) (L := L) L (p + 1) (by omega)
    exact ⟨by omega, h2 (by omega)⟩
  · split
    · obtain ⟨h1, h2, -⟩ := lxE_b (P := fun i => lxD (b i)) (L := L) L (p + 1) (by omega)
      exact ⟨by omega, h2 (by omega)⟩
    · omega
theorem end7 (hT : T7 s b L) {P : Nat → Bool} {r : Int32} (hr : (r = 0 ∧ P = fun i => lxD (b i)) ∨ (¬ r = 0 ∧ P = fun i => lxL (b i))) : ∀ (k q f : Nat), L - q ≤ k → q ≤ L → k < f → f_X3_tokenEnd_26 f 1 (nI L) (nI q) r s = some (nI (lxE P L q), s) := by
  have hL := hT.1
  intro k
  induction k with
  | zero =>
    intro q f hk hq hf
    obtain ⟨f, rfl⟩ : ∃ r, f = r + 1 := ⟨f - 1, by omega⟩
    rw [f_X3_tokenEnd_26, if_pos (nI_le (by omega) (by omega)), lxE_n (fun z => by omega)]; rfl
  | succ k ih =>
    intro q f hk hq hf
    obtain ⟨f, rfl⟩ : ∃ r, f = r + 1 := ⟨f - 1, by omega⟩
    by_cases h : q < L
    · obtain ⟨b1, b2⟩ := hT.2 q h
      rw [f_X3_tokenEnd_26, if_neg (nI_ge h (by omega))]
      rcases hr with ⟨r0, hP⟩ | ⟨r0, hP⟩
      · rw [if_pos r0, rd_1 s q rfl (by omega), Option.bind_some, b2, dig7 b1, zbd_some]
        by_cases h2 : lxD (b q) = true
        · rw [if_pos h2, if_neg (by decide), f_X3_tokenEnd_57, zb_eq, nI_1, ih (q + 1) f (by omega) (by omega) (by omega), lxE_s h (by rw [hP]; exact h2)]
        · rw [if_neg h2, if_pos rfl, lxE_n (fun z => h2 (by have := z.2; rw [hP] at this; exact this))]; rfl
      · rw [if_neg r0, rd_1 s q rfl (by omega), Option.bind_some, b2, let7 b1, zbd_some]
        by_cases h2 : lxL (b q) = true
        · rw [if_pos h2, if_neg (by decide), f_X3_tokenEnd_57, zb_eq, nI_1, ih (q + 1) f (by omega) (by omega) (by omega), lxE_s h (by rw [hP]; exact h2)]
        · rw [if_neg h2, if_pos rfl, lxE_n (fun z => h2 (by have := z.2; rw [hP] at this; exact this))]; rfl
    · rw [f_X3_tokenEnd_26, if_pos (nI_le (by omega) (by omega)), lxE_n (fun z => h z.1)]; rfl
theorem tokend7 (hT : T7 s b L) (hp : p < L) : f_X3_tokenEnd 1 (nI p) (nI L) s = some (nI (lxN b L p), s) := by
  have hL := hT.1
  obtain ⟨b1, b2⟩ := hT.2 p hp
  unfold lxN
  rw [f_X3_tokenEnd, zb_eq, nI_1, rd_1 s p rfl (by omega), Option.bind_some, b2, let7 b1, zbd_some]
  by_cases h : lxL (b p) = true
  · rw [if_pos h, if_pos h, if_pos (by decide)]
    exact end7 hT (Or.inr ⟨by decide, rfl⟩) L (p + 1) zFU (by omega) (by omega) (show L < 5000 by omega)
  · rw [if_neg h, if_neg h, if_neg (fun z => z rfl), rd_1 s p rfl (by omega), Option.bind_some, b2, dig7 b1, zbd_some]
    by_cases h2 : lxD (b p) = true
    · rw [if_pos h2, if_pos h2, if_neg (by decide)]
      exact end7 hT (Or.inl ⟨rfl, rfl⟩) L (p + 1) zFU (by omega) (by omega) (show L < 5000 by omega)
    · rw [if_neg h2, if_neg h2, if_pos rfl]; rfl
theorem idx7 {c : Nat} (hc : c < 256) : ∀ (k f : Nat), k ≤ 12 → k < f → f_J1_indexOfChar_4cfef_7 f 1 (nI 12) (lxb c) (nI (12 - k)) s = some (lxj c k, s) := by
  intro k
  induction k with
  | zero =>
    intro f _ hf
    obtain ⟨f, rfl⟩ : ∃ r, f = r + 1 := ⟨f - 1, by omega⟩
    rw [f_J1_indexOfChar_4cfef_7, if_pos (show nI 12 ≤ nI (12 - 0) from nI_le (Nat.le_refl _) (by decide))]; rfl
  | succ k ih =>
    intro f hk hf
    obtain ⟨f, rfl⟩ : ∃ r, f = r + 1 := ⟨f - 1, by omega⟩
    have h12 : 12 - (k + 1) < 12 := by omega
    obtain ⟨-, hlt, -⟩ := lxc_ok 1 (by decide) (12 - (k + 1)) h12
    have hiff := (by_1 c hc).2.2.2.2.2 (lxc 1 (12 - (k + 1))) hlt
    rw [f_J1_indexOfChar_4cfef_7, if_neg (nI_ge h12 (by omega)), zr_y_ok (by decide) h12, Option.bind_some]
    unfold lxj
    by_cases h : lxc 1 (12 - (k + 1)) = c
    · rw [if_pos h, if_neg (fun z => z (hiff.mpr h.symm).symm)]
    · rw [if_neg h, if_pos (fun z => h (hiff.mp z.symm).symm), zb_eq, nI_1, show 12 - (k + 1) + 1 = 12 - k by omega]
      exact ih f (by omega) (by omega)
theorem index7 {c : Nat} (hc : c < 256) : f_J0_indexOf_0f7a4 1 (((lxb c &&& nI 255).toUInt32 % 65536).toInt32) s = some (lxj c 12, s) := by
  have e1 : ((lxb c &&& nI 255).toUInt32 % 65536).toInt32 = nI c ∧ (nI c).toInt8.toInt32 = lxb c := (by decide +kernel : ∀ c, c < 256 → ((lxb c &&& nI 255).toUInt32 % 65536).toInt32 = nI c ∧ (nI c).toInt8.toInt32 = lxb c) c hc
  have hm : ∀ t, f_J9_max_7cf53 (0 : Int32) (0 : Int32) t = some (0, t) := fun t => rfl
  have hn : ∀ t, f_J9_min_7cf53 (nI (zt_len.getD 1 0)) (nI (zt_len.getD 1 0)) t = some (nI 12, t) := fun t => rfl
  rw [e1.1]
  unfold f_J0_indexOf_0f7a4 f_J0_indexOf_7cf53 f_J0_indexOf_7cf53_36 f_J1_indexOf_4cfef f_J1_canEncode_9a6ad f_J1_canEncode_9a6ad_16 f_J1_indexOfChar_4cfef
  rw [if_pos (by decide), if_pos (by decide), lat1 (by decide), zbd_some, if_neg (by decide), if_pos (by decide), if_pos (by decide), len_ok (by decide), zbd_some, if_neg (nI_pos (by omega)), if_neg (show ¬ nI 255 < nI c from nI_nlt (by omega) (by omega)), if_pos (Or.inr rfl), zbd_some, if_pos (by decide), hm, zbd_some, if_pos (by decide), hn, zbd_some, if_pos (by decide), zb_eq, e1.2, show f_J1_indexOfChar_4cfef_7 zFU 1 (nI 12) (lxb c) 0 s = _ from idx7 hc 12 zFU (by decide) (by decide), zbd_some, zbd_some, zbd_some]
end TOK
