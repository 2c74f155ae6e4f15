section NEXT2
variable {b : Nat → Nat} {L p e : Nat} {s : zS}
/-- the reference's next token -/
theorem next8 (hT : T8 s b L) (h7 : s.1 76 7 = nI p) (hp : p ≤ L) : ∃ s', f_X8_next s = some ((), s') ∧ RX s s' ∧ s'.1 76 6 = nI (lxE (fun i => lxS (b i)) L p) ∧ s'.1 76 7 = nI (if lxE (fun i => lxS (b i)) L p < L then lxN b L (lxE (fun i => lxS (b i)) L p) else lxE (fun i => lxS (b i)) L p) ∧ s'.1 76 9 = nI (lxY b L (lxE (fun i => lxS (b i)) L p)) ∧ (lxY b L (lxE (fun i => lxS (b i)) L p) = 23 → s'.1 76 10 = nI (lxQ b L (lxE (fun i => lxS (b i)) L p))) := by
  have hL := hT.1
  have hx0 : RX s (zs_i s 76 6 (nI p)) := RX.f (by decide)
  obtain ⟨t, f, g1, g2, g3⟩ := blank8 (b := b) (L := L) L p zFU (zs_i s 76 6 (nI p)) (hT.x hx0) (by omega) hp (show L < 5000 by omega) (zs_i_v _ _ _ _)
  obtain ⟨b1, b2, b3⟩ := lxE_b (P := fun i => lxS (b i)) (L := L) L p (by omega)
  have b2' := b2 hp
  generalize lxE (fun i => lxS (b i)) L p = q at *
  have hTt : T8 t b L := (hT.x hx0).x g2
  have e0 : f_X8_next s = f_X8_next_8 (f + 1) t := by
    rw [f_X8_next, h7, zb_eq, g1]
  have hns : ∀ c : Nat, (c = 10 ∨ c = 32) → ¬ (if q < L then nI (b q) else -1) = nI c := fun c hc z => by
    by_cases h : q < L
    · rw [if_pos h] at z
      have hb := (hT.2.2 q h).1
      have e : b q = c := Classical.byContradiction fun w => ne_of_nI w (by omega) (by omega) z
      exact b3 ⟨h, decide_eq_true (by omega)⟩
    · rw [if_neg h] at z
      exact ne_m1 (a := c) (by omega) z.symm
  have hx1 : RX t (zs_i t 76 7 (nI q)) := RX.f (by decide)
  have hT1 : T8 (zs_i t 76 7 (nI q)) b L := hTt.x hx1
  have f6 : (zs_i t 76 7 (nI q)).1 76 6 = nI q := by rw [zs_i_o _ _ _ _ _ (by decide)]; exact g3
  have f8 : (zs_i t 76 7 (nI q)).1 76 8 = nI L := hT1.2.1
  have hx : RX s (zs_i t 76 7 (nI q)) := (hx0.tr g2).tr hx1
  rw [e0, f_X8_next_8, g3, see8 hTt (by omega), zbd_some, if_neg (hns 10 (Or.inl rfl)), g3, see8 hTt (by omega), zbd_some, if_pos (hns 32 (Or.inr rfl)), g3, zb_eq, f6, f8]
  by_cases h : q < L
  · have hb := (hT.2.2 q h).1
    rw [if_pos (nI_lt h (by omega)), see8 hT1 (by omega), zbd_some, if_pos h, let8 hb, zbd_some, if_pos h]
    have hy : lxY b L q = if lxL (b q) then lxI (lxT b q (lxN b L q)) lxW 0 22 else if lxD (b q) then (if lxN b L q - q ≤ 3 then 23 else 25) else lxZ (b q) 12 := by
      unfold lxY
      rw [if_neg (show ¬ L ≤ q by omega)]
    by_cases hl : lxL (b q) = true
    · rw [if_pos hl] at hy
      have hn : lxN b L q = lxE (fun i => lxL (b i)) L q := by
        unfold lxN
        rw [if_pos hl, lxE_s (P := fun i => lxL (b i)) h hl]
      obtain ⟨w, r1, r2, r3, r4⟩ := run8 (b := b) (L := L) L q zFU (zs_i t 76 7 (nI q)) hT1 (by omega) (by omega) (show L < 5000 by omega) (zs_i_v _ _ _ _)
      obtain ⟨n1, n2⟩ := lxN_b (b := b) h
      rw [← hn] at r3
      have hk := key8 (hT1.x r1) (Nat.le_of_lt n1) n2 (by rw [r2, f6]) r3
      rw [if_pos hl, if_neg (by decide), r4, hk, zbd_some, zb_eq, hy]
      refine ⟨zs_i w 76 9 (nI (lxI (lxT b q (lxN b L q)) lxW 0 22)), rfl, (hx.tr r1).tr (RX.f (by decide)), by rw [zs_i_o _ _ _ _ _ (by decide), r2, f6], by rw [zs_i_o _ _ _ _ _ (by decide), r3], zs_i_v _ _ _ _, fun z => ?_⟩
      have := lxI_22 (lxT b q (lxN b L q))
      omega
    · rw [if_neg hl] at hy
      rw [if_neg hl, if_pos rfl, f6, see8 hT1 (by omega), zbd_some, if_pos h, dig8 hb, zbd_some]
      by_cases hd : lxD (b q) = true
      · rw [if_pos hd] at hy
        have hn : lxN b L q = lxE (fun i => lxD (b i)) L q := by
          unfold lxN
          rw [if_neg hl, if_pos hd, lxE_s (P := fun i => lxD (b i)) h hd]
        have hx2 : RX (zs_i t 76 7 (nI q)) (zs_i (zs_i t 76 7 (nI q)) 76 10 0) := RX.f (by decide)
        obtain ⟨w, r1, r2, r3, r4, r5, r6⟩ := digs8 (b := b) (L := L) (p := q) L q zFU (zs_i (zs_i t 76 7 (nI q)) 76 10 0) (hT1.x hx2) (by omega) (Nat.le_refl _) (by omega) (show L < 5000 by omega) (by rw [zs_i_o _ _ _ _ _ (by decide)]; exact f6) (by rw [zs_i_o _ _ _ _ _ (by decide), zs_i_v]) (by rw [zs_i_v, Nat.sub_self]; rfl)
        rw [← hn] at r4 r5 r6
        rw [if_pos hd, if_neg (by decide), zb_eq, hy]
        refine ⟨w, r1, (hx.tr hx2).tr r2, r3, r4, r5, fun z => ?_⟩
        by_cases h3 : lxN b L q - q ≤ 3
        · exact r6 h3
        · rw [if_neg h3] at z; cases z
      · rw [if_neg hd] at hy
        have hn : lxN b L q = q + 1 := by
          unfold lxN
          rw [if_neg hl, if_neg hd]
        have hx2 : RX (zs_i t 76 7 (nI q)) (zs_i (zs_i (zs_i t 76 7 (nI q)) 76 7 (nI (q + 1))) 76 9 (nI 25)) := RX.tr (RX.f (by decide)) (RX.f (by decide))
        obtain ⟨w, r1, r2, r3, r4, r5⟩ := sign8 (b := b) (L := L) (p := q) (c := b q) hb 12 0 zFU (zs_i (zs_i (zs_i t 76 7 (nI q)) 76 7 (nI (q + 1))) 76 9 (nI 25)) rfl (by decide) (hT1.x hx2) h rfl (by rw [zs_i_o _ _ _ _ _ (by decide), zs_i_o _ _ _ _ _ (by decide)]; exact f6) (zs_i_v _ _ _ _)
        rw [if_neg hd, if_pos rfl, zs_i_v, nI_1, zb_eq, zb_eq, hy]
        refine ⟨w, r1, (hx.tr hx2).tr r2, by rw [r3, zs_i_o _ _ _ _ _ (by decide), zs_i_o _ _ _ _ _ (by decide)]; exact f6, by rw [r4, zs_i_o _ _ _ _ _ (by decide), zs_i_v, hn], r5, fun z => ?_⟩
        have := lxZ_r (b q) 12
        omega
  · have hy : lxY b L q = 24 := by unfold lxY; rw [if_pos (by omega)]
    rw [if_neg (nI_nlt (by omega) (by omega)), zb_eq, if_neg h, hy]
    exact ⟨zs_i (zs_i t 76 7 (nI q)) 76 9 (nI 24), rfl, hx.tr (RX.f (by decide)), by rw [zs_i_o _ _ _ _ _ (by decide)]; exact f6, by rw [zs_i_o _ _ _ _ _ (by decide), zs_i_v], zs_i_v _ _ _ _, fun z => (by cases z)⟩
end NEXT2
