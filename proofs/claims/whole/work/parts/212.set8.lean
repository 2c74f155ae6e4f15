/-- the members of a set, below k -/
def zmem (m : Nat) : Nat → List Nat
  | 0 => []
  | k + 1 => if m.testBit k then zmem m k ++ [k] else zmem m k
theorem zmem_len (m : Nat) : ∀ k, (zmem m k).length = zpc k m := by
  intro k
  induction k with
  | zero => rfl
  | succ k ih =>
    show (if m.testBit k then zmem m k ++ [k] else zmem m k).length = zpc k m + zbit m k
    rw [zbit_tb]
    by_cases h : m.testBit k = true
    · rw [if_pos h, h]; simp [ih]
    · rw [if_neg h]; simp only [Bool.not_eq_true] at h; rw [h, ih]; rfl
theorem zmem_lt (m : Nat) : ∀ k p, p ∈ zmem m k ↔ p < k ∧ m.testBit p = true := by
  intro k
  induction k with
  | zero => intro p; simp [zmem]
  | succ k ih =>
    intro p
    rw [zmem]
    by_cases h : m.testBit k = true
    · rw [if_pos h, List.mem_append, ih p, List.mem_singleton]
      constructor
      · rintro (⟨h1, h2⟩ | rfl)
        · exact ⟨by omega, h2⟩
        · exact ⟨by omega, h⟩
      · rintro ⟨h1, h2⟩
        by_cases e : p = k
        · exact Or.inr e
        · exact Or.inl ⟨by omega, h2⟩
    · rw [if_neg h, ih p]
      constructor
      · rintro ⟨h1, h2⟩; exact ⟨by omega, h2⟩
      · rintro ⟨h1, h2⟩
        by_cases e : p = k
        · subst e; exact absurd h2 h
        · exact ⟨by omega, h2⟩
theorem zpc_mono (m : Nat) : ∀ k j, zpc k m ≤ zpc (k + j) m := by
  intro k j
  induction j with
  | zero => exact Nat.le_refl _
  | succ j ih => show zpc k m ≤ zpc (k + j) m + m / 2 ^ (k + j) % 2; omega
theorem gd_mem {α : Type} (l : List α) (d : α) {i : Nat} (h : i < l.length) : l.getD i d ∈ l := by
  rw [List.getD_eq_getElem?_getD, List.getElem?_eq_getElem h]
  exact List.getElem_mem h
section SET8
variable {n : Nat} {G M : Nat → Nat} {c0 c1 : List Nat}
theorem set8_loop {m : Nat} (hm : m < 1024) (h4 : (zmem m n).length ≤ 4) : ∀ (j i q : Nat) (s : zS), i + j = n → j < q → ZM s n G M c0 c1 → s.1 76 20 = nI (zmem m i).length → (∀ k, k < (zmem m i).length → s.1 81 k = nI (((zmem m i).map G).getD k 0)) →
    ∃ s', f_X8_laysSet_7 q (nI m) (nI i) s = some (nI (zmono ((zmem m n).map G)).1, s') ∧ ZR8 s' (zmono ((zmem m n).map G)) ∧ zk_m [81, 82, 83, 84] s s' := by
  intro j
  induction j with
  | zero =>
    intro i q s hi hq hZ h20 h81
    have hn := hZ.1
    obtain ⟨q, rfl⟩ : ∃ r, q = r + 1 := ⟨q - 1, by omega⟩
    have e : i = n := by omega
    subst e
    rw [f_X8_laysSet_7, r77_1, Option.bind_some, hZ.2.1, if_pos (nI_le (Nat.le_refl _) (by omega))]
    obtain ⟨s', g1, g2, g3⟩ := lm8_2 (L := (zmem m i).map G) (by simpa using h4) (fun k hk => by
      have := gd_mem _ 0 hk
      obtain ⟨p, hp, e⟩ := List.mem_map.mp this
      rw [← e]
      exact (hZ.2.2.1 p ((zmem_lt m i p).mp hp).1).1.2) (zmem m i).length 0 zFU s (by simp) (by show (zmem m i).length < 5000; omega) (by rw [h20, List.length_map]) (fun k hk => h81 k (by simpa using hk)) (fun k hk => by omega)
    have g1' : f_X8_laysMonogram s = some (nI (zmono ((zmem m i).map G)).1, s') := g1
    rw [g1', zbd_some]
    exact ⟨s', rfl, g2, g3.mono (by simp)⟩
  | succ j ih =>
    intro i q s hi hq hZ h20 h81
    have hn := hZ.1
    obtain ⟨q, rfl⟩ : ∃ r, q = r + 1 := ⟨q - 1, by omega⟩
    rw [f_X8_laysSet_7, r77_1, Option.bind_some, hZ.2.1, if_neg (nI_ge (by omega) (by omega)), in_ok s (by omega) hm, zbd_some]
    have ih := ih (i + 1) q
    by_cases hb : m.testBit i = true
    · have hle : (zmem m i).length + 1 ≤ 4 := by
        have h5 := zpc_mono m (i + 1) (n - (i + 1))
        rw [show i + 1 + (n - (i + 1)) = n by omega, ← zmem_len, ← zmem_len, zmem, if_pos hb] at h5
        simp only [List.length_append, List.length_singleton] at h5
        omega
      rw [if_pos hb, if_pos (by decide), nI_add, rd_77 s (29 + i) rfl (by omega), Option.bind_some, (hZ.2.2.1 i (by omega)).1.1, h20, wr_81 s (zmem m i).length rfl (by omega), Option.bind_some, zb_eq, zs_i_n _ _ _ _ _ (by decide : (76 : Nat) ≠ 81), h20, nI_1, f_X8_laysSet_57, zb_eq, nI_1]
      have k1 : zk_m [81, 82, 83, 84] s (zs_i (zs_i s 81 (zmem m i).length (nI (G i))) 76 20 (nI ((zmem m i).length + 1))) := (zk_m.rf.i (by simp) (by decide)).f (by decide) (by decide) (by decide)
      have ez : zmem m (i + 1) = zmem m i ++ [i] := by rw [zmem, if_pos hb]
      obtain ⟨s', g1, g2, g3⟩ := ih _ (by omega) (by omega) (hZ.keep k1.1 (by decide)) (by rw [ez, zs_i_v]; simp) (fun k hk => by
        rw [ez] at hk ⊢
        simp only [List.length_append, List.length_singleton] at hk
        rw [zs_i_n _ _ _ _ _ (by decide), List.map_append]
        by_cases e : k = (zmem m i).length
        · subst e
          rw [zs_i_v]
          have := gd_eq ((zmem m i).map G) (G i) 0
          rw [List.length_map] at this
          exact congrArg nI this.symm
        · rw [zs_i_o _ _ _ _ _ e, h81 k (by omega)]
          exact congrArg nI (gd_lt ((zmem m i).map G) (G i) 0 (by rw [List.length_map]; omega)).symm)
      exact ⟨s', g1, g2, k1.tr g3⟩
    · have ez : zmem m (i + 1) = zmem m i := by rw [zmem, if_neg hb]
      rw [if_neg hb, if_neg (fun z => z rfl), f_X8_laysSet_57, zb_eq, nI_1]
      exact ih s (by omega) (by omega) hZ (by rw [ez]; exact h20) (by rw [ez]; exact h81)
theorem set8 {s : zS} (hZ : ZM s n G M c0 c1) {m : Nat} (hm : m < 1024) (h4 : (zmem m n).length ≤ 4) : ∃ s', f_X8_laysSet (nI m) s = some (nI (zmono ((zmem m n).map G)).1, s') ∧ ZR8 s' (zmono ((zmem m n).map G)) ∧ zk_m [81, 82, 83, 84] s s' := by
  have hn := hZ.1
  rw [f_X8_laysSet, zb_eq]
  have k1 : zk_m [81, 82, 83, 84] s (zs_i s 76 20 0) := zk_m.rf.f (by decide) (by decide) (by decide)
  obtain ⟨s', g1, g2, g3⟩ := set8_loop (n := n) (G := G) (M := M) (c0 := c0) (c1 := c1) hm h4 n 0 zFU (zs_i s 76 20 0) (by omega) (by show n < 5000; omega) (hZ.keep k1.1 (by decide)) (by rw [zs_i_v]; rfl) (fun k hk => absurd hk (by simp [zmem]))
  exact ⟨s', g1, g2, k1.tr g3⟩
/-- how much ink a set has -/
theorem ink8m {s : zS} (hR : ZM s n G M c0 c1) {m : Nat} (hm : m < 1024) : f_X8_inkOf (nI m) s = some (nI (zink n G m), s) := by
  have K := loop_fold (fun q i c => f_X8_inkOf_4 q (nI m) (nI c) (nI i) s) n (fun p c => c + (if m.testBit p then zpc 9 (G p) else 0)) (fun c => some (nI c, s)) (fun _ _ => True)
    (fun q i c hi _ => by
      have hn := hR.1
      refine ⟨?_, trivial⟩
      show f_X8_inkOf_4 (q + 1) (nI m) (nI c) (nI i) s = _
      rw [f_X8_inkOf_4, r77_1 s, Option.bind_some, hR.2.1, if_neg (nI_ge hi (by omega)), in_ok s (by omega) hm, zbd_some]
      by_cases ht : m.testBit i = true
      · rw [if_pos ht, if_neg (by decide), nI_add, rd_77 s (29 + i) rfl (by omega), Option.bind_some, (hR.2.2.1 i hi).1.1, bits_512 (hR.2.2.1 i hi).1.2, zbd_some, f_X8_inkOf_40, zb_eq, zb_eq, nI_add, nI_1]
        simp only [ht, if_true]
      · rw [if_neg ht, if_pos rfl, f_X8_inkOf_40, zb_eq, zb_eq, nI_1, show nI c + (0 : Int32) = nI (c + 0) from nI_add c 0]
        simp only [ht]
        rfl)
    (fun q c _ => by
      show f_X8_inkOf_4 (q + 1) (nI m) (nI c) (nI n) s = _
      rw [f_X8_inkOf_4, r77_1 s, Option.bind_some, hR.2.1, if_pos (nI_le (Nat.le_refl n) (by have := hR.1; omega))])
    n 0 zFU 0 (by omega) (by have := hR.1; show n < 5000; omega) trivial
  exact K.1
theorem ink7k {s : zS} (hR : ZK s n G M c0 c1) {m : Nat} (hm : m < 1024) : f_X5_inkOf_3 (nI m) s = some (nI (zink n G m), s) := by
  have K := loop_fold (fun q i c => f_X5_inkOf_3_4 q (nI m) (nI c) (nI i) s) n (fun p c => c + (if m.testBit p then zpc 9 (G p) else 0)) (fun c => some (nI c, s)) (fun _ _ => True)
    (fun q i c hi _ => by
      have hn := hR.1
      refine ⟨?_, trivial⟩
      show f_X5_inkOf_3_4 (q + 1) (nI m) (nI c) (nI i) s = _
      rw [f_X5_inkOf_3_4, hR.2.1, if_neg (nI_ge hi (by omega)), ush_tb (by omega) hm]
      by_cases ht : m.testBit i = true
      · rw [if_pos ht, if_neg (fun z => z rfl), rd_4 s i rfl (by omega), Option.bind_some, (hR.2.2.1 i hi).1.1, bc_ok s (hR.2.2.1 i hi).1.2, zbd_some, zb_eq, nI_add, f_X5_inkOf_3_33, zb_eq, nI_1]
        simp only [ht, if_true]
      · rw [if_neg ht, if_pos (by decide), f_X5_inkOf_3_33, zb_eq, nI_1]
        simp only [ht]
        rfl)
    (fun q c _ => by
      show f_X5_inkOf_3_4 (q + 1) (nI m) (nI c) (nI n) s = _
      rw [f_X5_inkOf_3_4, hR.2.1, if_pos (nI_le (Nat.le_refl n) (by have := hR.1; omega))])
    n 0 zFU 0 (by omega) (by have := hR.1; show n < 5000; omega) trivial
  exact K.1
/-- whether a set fits in one ring -/
def zcs (n : Nat) (G : Nat → Nat) (m : Nat) : Nat := (zmono ((zmem m n).map G)).1
def zfs (n : Nat) (G : Nat → Nat) (c0 : List Nat) (m : Nat) : Bool := decide ((zmem m n).length ≤ 4) && zfit c0 (zcs n G m) (zink n G m) (zmem m n).length
theorem zcs_lt (n : Nat) (G : Nat → Nat) (m : Nat) : zcs n G m < 2 ^ 31 := zgo_lt _ _ _ _ (by decide)
theorem zpc_n {n m : Nat} (hn : n ≤ 7) (hm : m < 2 ^ n) : zpc 25 m = (zmem m n).length ∧ zpc 9 m = (zmem m n).length := by
  have h1 := zpc_more hm (25 - n)
  have h2 := zpc_more hm (9 - n)
  rw [show n + (25 - n) = 25 by omega] at h1
  rw [show n + (9 - n) = 9 by omega] at h2
  rw [zmem_len]
  exact ⟨h1, h2⟩
theorem fset8 {s : zS} (hZ : ZM s n G M c0 c1) {m : Nat} (hm : m < 2 ^ n) : ∃ s', f_X8_fitsSet (nI m) s = some (if zfs n G c0 m then 1 else 0, s') ∧ zk_m [81, 82, 83, 84, 85, 86] s s' := by
  have hn := hZ.1
  have h128 := pow_128 hn
  unfold f_X8_fitsSet f_X8_fitsSet_32 f_X8_fitsSet_33 zfs
  rw [bits_ok (by omega), zbd_some, (zpc_n hn hm).1]
  have hl : (zmem m n).length ≤ n := by rw [zmem_len]; exact zpc_le _ _
  by_cases h4 : (zmem m n).length ≤ 4
  · obtain ⟨s1, a1, a2, a3⟩ := set8 hZ (m := m) (by omega) h4
    have hZ1 := hZ.keep a3.1 (by decide)
    rw [if_neg (nI_nlt h4 (by omega)), a1, zbd_some, ink8m hZ1 (by omega), zbd_some]
    obtain ⟨s2, b1, b2⟩ := fit8 hZ1 (zcs n G m) (zink n G m) (zmem m n).length (zcs_lt _ _ _)
    have b1' : f_X8_fitsBy (nI (zmono ((zmem m n).map G)).1) (nI (zink n G m)) (nI (zmem m n).length) s1 = some (if zfit c0 (zcs n G m) (zink n G m) (zmem m n).length then 1 else 0, s2) := b1
    rw [b1', zbd_some]
    have k2 : zk_m [81, 82, 83, 84, 85, 86] s1 s2 := ⟨b2.mono (by simp), by rw [(b2 76 (by decide)).1], by rw [(b2 76 (by decide)).1], by rw [(b2 76 (by decide)).1], by rw [(b2 76 (by decide)).1]⟩
    refine ⟨s2, ?_, (a3.mono (by simp)).tr k2⟩
    by_cases hf : zfit c0 (zcs n G m) (zink n G m) (zmem m n).length = true
    · simp [hf, h4]
    · simp [hf]
  · rw [if_pos (nI_lt (by omega) (by omega))]
    exact ⟨s, by simp [h4], zk_m.rf⟩
end SET8
