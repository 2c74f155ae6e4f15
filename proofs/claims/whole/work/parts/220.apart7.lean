theorem pl_ok : ∀ c, c < 9 → zr_t 1 (nI c) = some (nI (zPL c)) := by decide +kernel
/-- crossings by distance, of the first c cells of a -/
def zapp (a b i c : Nat) : Nat := zsum c (fun c => zsum 9 (fun d => zbit a c * (zbit b d * (if zPL c + 12 = i + zPL d then 1 else 0))))
def zapq (a b i c d : Nat) : Nat := zapp a b i c + zsum d (fun d => zbit a c * (zbit b d * (if zPL c + 12 = i + zPL d then 1 else 0)))
theorem zapp_s (a b i c : Nat) : zapp a b i (c + 1) = zapq a b i c 9 := rfl
section APART
variable {v0 N off a b : Nat}
/-- outside nothing changes -/
def ZO7 (v0 off : Nat) (s t : zS) : Prop := zk_k [v0] s t ∧ ∀ j, (j < off ∨ off + 25 ≤ j) → t.1 v0 j = s.1 v0 j
theorem ZO7.rf {v0 off : Nat} {s : zS} : ZO7 v0 off s s := ⟨zk_k.rf, fun _ _ => rfl⟩
theorem ZO7.i {v0 off : Nat} {s t : zS} (h : ZO7 v0 off s t) {j : Nat} (hj : off ≤ j ∧ j < off + 25) (v : Int32) : ZO7 v0 off s (zs_i t v0 j v) := ⟨h.1.i (by simp), fun k hk => by
  rw [zs_i_o _ _ _ _ _ (by omega)]; exact h.2 k hk⟩
theorem ap7_101 (hd : zk_d v0 = 0) (hn : zk_n v0 = N) (hN : N < 2 ^ 31) (ho : off + 25 ≤ N) {s : zS} (hr : ∀ i, i < 25 → s.1 v0 (off + i) = nI (zap a b i)) : f_X4_learnApart_101 zFU v0 (nI off) (nI 9) 0 s = some (nI (zfew a b), s) := by
  obtain ⟨q', u, g1, -⟩ := zlp (fun q i (_ : Unit) => f_X4_learnApart_101 q v0 (nI off) (nI (zmn 9 (zap a b) i)) (nI i) s) 25 (fun _ _ => True)
    (fun q i _ hi _ => by
      refine ⟨(), ?_, trivial⟩
      show f_X4_learnApart_101 (q + 1) v0 (nI off) (nI (zmn 9 (zap a b) i)) (nI i) s = f_X4_learnApart_101 q v0 (nI off) (nI (zmn 9 (zap a b) (i + 1))) (nI (i + 1)) s
      have h1 := (zmn_le (k0 := 9) (f := zap a b) i).1
      have h2 := zap_le a b i
      rw [f_X4_learnApart_101, if_neg (nI_ge hi (by omega)), nI_add, rd_i hd hn hN rfl (by omega), Option.bind_some, hr i hi, zmn]
      by_cases h : zap a b i < zmn 9 (zap a b) i
      · rw [if_neg (nI_ge h (by omega)), if_pos h, Option.bind_some, f_X4_learnApart_130, zb_eq, nI_1]
      · rw [if_pos (nI_le (by omega) (by omega)), if_neg h, f_X4_learnApart_130, zb_eq, nI_1]) 25 0 zFU () (by decide) (by decide) trivial
  have g1' : f_X4_learnApart_101 zFU v0 (nI off) (nI 9) 0 s = f_X4_learnApart_101 (q' + 1) v0 (nI off) (nI (zmn 9 (zap a b) 25)) (nI 25) s := g1
  rw [g1', f_X4_learnApart_101, if_pos (nI_le (Nat.le_refl _) (by omega))]
  rfl
theorem ap7_36 (hd : zk_d v0 = 0) (hn : zk_n v0 = N) (hN : N < 2 ^ 31) (ho : off + 25 ≤ N) (ha : a < 512) (hb : b < 512) (kb : Nat → Int32 → Int32 → Int32 → Int32 → zS → Option (Int32 × zS)) {c : Nat} (hc : c < 9) {s0 s : zS} (hO : ZO7 v0 off s0 s) (hr : ∀ i, i < 25 → s.1 v0 (off + i) = nI (zapp a b i c)) :
    ∃ s', f_X4_learnApart_36 kb zFU v0 (nI off) (nI a) (nI b) (nI c) 0 s = kb v0 (nI off) (nI a) (nI b) (nI (c + 1)) s' ∧ ZO7 v0 off s0 s' ∧ ∀ i, i < 25 → s'.1 v0 (off + i) = nI (zapp a b i (c + 1)) := by
  have h12 := zPL_12 c hc
  by_cases hbit : a.testBit c = true
  · have hb1 := (zbit_eq1 a c).mpr hbit
    obtain ⟨q', s', g1, g2, g3⟩ := zlp (fun q d s => f_X4_learnApart_36 kb q v0 (nI off) (nI a) (nI b) (nI c) (nI d) s) 9 (fun d s => ZO7 v0 off s0 s ∧ ∀ i, i < 25 → s.1 v0 (off + i) = nI (zapq a b i c d))
      (fun q d t hd9 h => by
        show ∃ a', f_X4_learnApart_36 kb (q + 1) v0 (nI off) (nI a) (nI b) (nI c) (nI d) t = f_X4_learnApart_36 kb q v0 (nI off) (nI a) (nI b) (nI c) (nI (d + 1)) a' ∧ _
        have hd12 := zPL_12 d hd9
        rw [f_X4_learnApart_36, if_neg (nI_ge hd9 (by omega)), ush_tb (by omega) (by omega), if_pos hbit, if_neg (fun z => z rfl), pl_ok c hc, Option.bind_some, pl_ok d hd9, Option.bind_some, nI_add, nI_add, pk_sub (by omega), show off + 12 + zPL c - zPL d = off + (12 + zPL c - zPL d) by omega, rd_i hd hn hN rfl (by omega), Option.bind_some, h.2 _ (by omega), ush_bit d (by omega) b (by omega), nI_add, wr_i hd hn hN rfl (by omega), Option.bind_some, zb_eq, nI_1]
        refine ⟨_, rfl, h.1.i (by omega) _, fun i hi => ?_⟩
        show _ = nI (zapp a b i c + (zsum d (fun d => zbit a c * (zbit b d * (if zPL c + 12 = i + zPL d then 1 else 0))) + zbit a c * (zbit b d * (if zPL c + 12 = i + zPL d then 1 else 0))))
        by_cases e : i = 12 + zPL c - zPL d
        · subst e
          rw [zs_i_v, if_pos (by omega), ← Nat.add_assoc]
          show nI (zapq a b (12 + zPL c - zPL d) c d + zbit b d) = nI (zapq a b (12 + zPL c - zPL d) c d + zbit a c * (zbit b d * 1))
          rw [hb1, Nat.mul_one, Nat.one_mul]
        · rw [zs_i_o _ _ _ _ _ (by omega), if_neg (by omega), Nat.mul_zero, Nat.mul_zero, Nat.add_zero]
          exact h.2 i hi) 9 0 zFU s (by decide) (by decide) ⟨hO, fun i hi => hr i hi⟩
    have g1' : f_X4_learnApart_36 kb zFU v0 (nI off) (nI a) (nI b) (nI c) 0 s = f_X4_learnApart_36 kb (q' + 1) v0 (nI off) (nI a) (nI b) (nI c) (nI 9) s' := g1
    rw [g1', f_X4_learnApart_36, if_pos (nI_le (Nat.le_refl _) (by omega)), f_X4_learnApart_88, zb_eq, nI_1]
    exact ⟨s', rfl, g2, g3⟩
  · have hb0 : zbit a c = 0 := by
      have h1 := zbit_le a c
      have h2 : ¬ zbit a c = 1 := fun z => hbit ((zbit_eq1 a c).mp z)
      omega
    rw [show zFU = 4999 + 1 from rfl, f_X4_learnApart_36, if_neg (by decide), ush_tb (by omega) (by omega), if_neg hbit, if_pos (by decide), f_X4_learnApart_88, zb_eq, nI_1]
    refine ⟨s, rfl, hO, fun i hi => ?_⟩
    rw [zapp_s, zapq, zsum_zero 9 (fun d _ => by rw [hb0, Nat.zero_mul]), Nat.add_zero]
    exact hr i hi
theorem ap7 (hd : zk_d v0 = 0) (hn : zk_n v0 = N) (hN : N < 2 ^ 31) (ho : off + 25 ≤ N) (ha : a < 512) (hb : b < 512) (s : zS) : ∃ s', f_X4_learnApart v0 (nI off) (nI a) (nI b) s = some (nI (zfew a b), s') ∧ ZO7 v0 off s s' ∧ ∀ i, i < 25 → s'.1 v0 (off + i) = nI (zap a b i) := by
  obtain ⟨q1, s1, g1, g2, g3⟩ := zlp (fun q i s => f_X4_learnApart_3 q v0 (nI off) (nI a) (nI b) (nI i) s) 25 (fun i t => ZO7 v0 off s t ∧ ∀ j, j < i → t.1 v0 (off + j) = 0)
    (fun q i t hi h => by
      show ∃ a', f_X4_learnApart_3 (q + 1) v0 (nI off) (nI a) (nI b) (nI i) t = f_X4_learnApart_3 q v0 (nI off) (nI a) (nI b) (nI (i + 1)) a' ∧ _
      rw [f_X4_learnApart_3, if_neg (nI_ge hi (by omega)), nI_add, wr_i hd hn hN rfl (by omega), Option.bind_some, zb_eq, nI_1]
      refine ⟨_, rfl, h.1.i (by omega) _, fun j hj => ?_⟩
      by_cases e : j = i
      · subst e; rw [zs_i_v]
      · rw [zs_i_o _ _ _ _ _ (by omega)]; exact h.2 j (by omega)) 25 0 zFU s (by decide) (by decide) ⟨ZO7.rf, fun j hj => by omega⟩
  have g1' : f_X4_learnApart v0 (nI off) (nI a) (nI b) s = f_X4_learnApart_3 (q1 + 1) v0 (nI off) (nI a) (nI b) (nI 25) s1 := g1
  obtain ⟨q2, s2, e1, e2, e3⟩ := zlp (fun q c s => f_X4_learnApart_26 q v0 (nI off) (nI a) (nI b) (nI c) s) 9 (fun c t => ZO7 v0 off s t ∧ ∀ i, i < 25 → t.1 v0 (off + i) = nI (zapp a b i c))
    (fun q c t hc h => by
      show ∃ a', f_X4_learnApart_26 (q + 1) v0 (nI off) (nI a) (nI b) (nI c) t = f_X4_learnApart_26 q v0 (nI off) (nI a) (nI b) (nI (c + 1)) a' ∧ _
      rw [f_X4_learnApart_26, if_neg (nI_ge hc (by omega))]
      exact ap7_36 hd hn hN ho ha hb (f_X4_learnApart_26 q) hc h.1 h.2) 9 0 zFU s1 (by decide) (by decide) ⟨g2, fun i hi => g3 i hi⟩
  have e1' : f_X4_learnApart_26 zFU v0 (nI off) (nI a) (nI b) 0 s1 = f_X4_learnApart_26 (q2 + 1) v0 (nI off) (nI a) (nI b) (nI 9) s2 := e1
  rw [g1', f_X4_learnApart_3, if_pos (nI_le (Nat.le_refl _) (by omega)), e1', f_X4_learnApart_26, if_pos (nI_le (Nat.le_refl _) (by omega)), ap7_101 hd hn hN ho e3]
  exact ⟨s2, rfl, e2, e3⟩
end APART
