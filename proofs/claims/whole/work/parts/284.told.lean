section TOLD
variable {b : Nat → Nat} {L N : Nat} {s : zS} {n : Nat} {G M H D : Nat → Nat} {c0 c1 : List Nat} {u : Nat} {A B : Nat → Nat}
/-- what a told society leaves of the rest -/
def TLD (s t : zS) : Prop := (t.1 69 = s.1 69 ∧ t.1 70 = s.1 70 ∧ t.2 71 = s.2 71 ∧ t.1 97 = s.1 97 ∧ t.1 98 = s.1 98 ∧ t.2 99 = s.2 99) ∧ t.1 93 0 = s.1 93 0
theorem TLD.k {S : List Nat} {s t : zS} (h : zk_k S s t) (hd : ∀ k, k ∈ [69, 70, 71, 97, 98, 99, 93] → k ∉ S) : TLD s t := ⟨⟨(h 69 (hd 69 (by decide))).1, (h 70 (hd 70 (by decide))).1, (h 71 (hd 71 (by decide))).2, (h 97 (hd 97 (by decide))).1, (h 98 (hd 98 (by decide))).1, (h 99 (hd 99 (by decide))).2⟩, by rw [(h 93 (hd 93 (by decide))).1]⟩
def SR (f g : zS → Option (Int32 × zS)) (s : zS) (A B : Nat → Nat) : Prop := ∃ (r : Int32) (s1 s2 : zS) (n : Nat) (G M H D : Nat → Nat) (c0 c1 : List Nat) (u : Nat) (A2 B2 : Nat → Nat), f s = some (r, s1) ∧ g s1 = some (r, s2) ∧ SOC1 s2 n G M H D c0 c1 u A2 B2 ∧ AG A B A2 B2 100 ∧ JIx s2 ∧ JT s2 ∧ JF s2 ∧ TLD s s2
theorem bytes_f {t : Nat} (hb : ∀ i, i < t → ∃ b, b < 256 ∧ s.1 79 i = nI b ∧ s.1 1 i = (nI b).toInt8.toInt32) : ∃ b : Nat → Nat, ∀ i, i < t → b i < 256 ∧ s.1 79 i = nI (b i) ∧ s.1 1 i = lxb (b i) :=
  ⟨fun i => if h : i < t then Classical.choose (hb i h) else 0, fun i hi => by
    dsimp only
    rw [dif_pos hi]
    exact Classical.choose_spec (hb i hi)⟩
theorem q_society (hS : SOC1 s n G M H D c0 c1 u A B) (hI : JIx s) (hT : JT s) (hF : JF s) (hab : AB A B 1) (x : Int32) : SR (f_X7_society x) (f_X8_society x) s A B := by
  obtain ⟨t, ht, h01, h765, hb⟩ := hT
  have hy : (nI t).toInt64.toInt = t := by rw [Int32.toInt_toInt64, nI_toInt (by omega)]
  rcases wi_c (x := x) (m := t) (y := (nI t).toInt64) (by omega) hy with ⟨w1, w2⟩ | ⟨L, hL, rfl, w1⟩
  · refine ⟨-3, s, zs_i s 76 0 0, n, G, M, H, D, c0, c1, u, A, B, ?_, ?_, hS.same (zk_k.rf.i (S := [76]) (by simp)) (by decide) (fun _ _ => rfl), AG.rf, hI.same (zk_k.rf.i (S := [76]) (by simp)) (by decide) (fun _ _ => rfl), ⟨t, ht, h01, by rw [zs_i_o _ _ _ _ _ (by decide)]; exact h765, hb⟩, ⟨by rw [zs_i_o _ _ _ _ _ (by decide)]; exact hF.1, by rw [zs_i_o _ _ _ _ _ (by decide)]; exact hF.2⟩, TLD.k (zk_k.rf.i (S := [76]) (by simp)) (by decide)⟩
    · rw [f_X7_society]
      rcases w2 with h | ⟨h, h'⟩
      · rw [if_pos h]; rfl
      · rw [if_neg h, h01, if_neg (fun z => nI_ge (a := t) (b := t + 1) (by omega) (by omega) (Int32.le_trans h' z))]; rfl
    · rw [f_X8_society, zb_eq, zs_i_o _ _ _ _ _ (by decide), h765, w1, zbd_some, if_neg (fun z => z rfl)]
  · obtain ⟨b, hb⟩ := bytes_f hb
    have hT7 : T7 (zs_i s 0 1 0) b L := ⟨by omega, fun i hi => by rw [zs_i_n _ _ _ _ _ (by decide)]; exact ⟨(hb i (by omega)).1, (hb i (by omega)).2.2⟩⟩
    obtain ⟨N, s12, hTN, hC, hD, k12, e12⟩ := start7 hT7
    have kc12 : zk_k [0, 30, 31, 32, 33, 34, 35, 36, 37, 40, 41] s s12 := (zk_k.rf.i (by decide)).tr (k12.mono (by decide))
    have z12 : s12.1 0 1 = 0 := by rw [(k12 0 (by decide)).1]; exact zs_i_v _ _ _ _
    have e7 : f_X7_society (nI L) s = zbd (rd7 s12) fun r2 s3 => if r2 = 0 then (zbd (f_X5_copyFrom_3_31 s3) fun _ s4 => zbd (f_X2_forget s4) fun _ s5 => some (s5.1 3 1, s5)) else some ((-30 : Int32) - r2, s3) := by
      rw [f_X7_society, if_neg (nI_pos (by omega)), h01, if_pos (nI_le hL (by omega)), zb_eq, e12]
    rcases soc_both hTN with ⟨kd, j, b1, b2, b3, bC, bR⟩ | ⟨m2, l2, X2, o1, o3, oC, oR⟩
    · -- both refuse
      obtain ⟨s3, q1, q2⟩ := bC s12 ⟨hC, hD⟩
      have k3 : zk_k [0, 30, 31, 32, 33, 34, 35, 36, 37, 40, 41] s s3 := kc12.tr (q2.2.2.1.mono (by decide))
      obtain ⟨s18, hR18, hD18, k18, z18, e18⟩ := start8 (s := s3) hTN (fun i hi => by rw [(k3 79 (by decide)).1]; exact ⟨(hb i (by omega)).1, (hb i (by omega)).2.1⟩) (fun t' => by rw [(k3 76 (by decide)).1, h765]; exact w1 t')
      obtain ⟨s9, p1, p2⟩ := bR s18 ⟨hR18, hD18⟩
      have hdd := p2.dead b1 b2
      have k9 : zk_k [0, 30, 31, 32, 33, 34, 35, 36, 37, 40, 41, 76, 80] s s9 := ((k3.mono (by decide)).tr (k18.mono (by decide))).tr (p2.2.2.1.mono (by decide))
      have kT : zk_k [0, 30, 31, 32, 33, 34, 35, 36, 37, 40, 41, 76, 80] s (zs_i (zs_i s9 76 13 (nI kd)) 76 14 (nI (lxB b L j))) := (k9.i (by decide)).i (by decide)
      have k39 : zk_k [76, 80] s3 s9 := k18.tr p2.2.2.1
      refine ⟨-30 - nI kd, s3, zs_i (zs_i s9 76 13 (nI kd)) 76 14 (nI (lxB b L j)), n, G, M, H, D, c0, c1, u, A, B, ?_, ?_, hS.same kT (by decide) (fun i _ => by rw [(kT 77 (by decide)).1]), AG.rf, hI.same kT (by decide) (fun i _ => by rw [(kT 77 (by decide)).1]), ⟨0, by decide, ?_, ?_, fun i hi => absurd hi (Nat.not_lt_zero _)⟩, ⟨?_, ?_⟩, TLD.k kT (by decide)⟩
      · rw [e7, q1, zbd_some, if_neg (show ¬ nI kd = 0 from ne_of_nI (b := 0) (by omega) (by omega) (by omega))]
      · have e11 : (zs_i (zs_i s9 76 13 (nI kd)) 76 14 (nI (lxB b L j))).1 76 11 = nI kd := by rw [zs_i_o _ _ _ _ _ (by decide), zs_i_o _ _ _ _ _ (by decide)]; exact p2.1
        rw [e18, p1, f_X8_society_97, zb_eq, p2.1, zs_i_o _ _ _ _ _ (by decide), if_pos hdd, zs_i_o _ _ _ _ _ (by decide), p2.2.1, f_X8_society_121, zb_eq, e11, if_neg (show ¬ nI kd = 0 from ne_of_nI (b := 0) (by omega) (by omega) (by omega))]
      · rw [zs_i_n _ _ _ _ _ (by decide), zs_i_n _ _ _ _ _ (by decide), (k39 0 (by decide)).1, (q2.2.2.1 0 (by decide)).1]; exact z12
      · rw [zs_i_o _ _ _ _ _ (by decide), zs_i_o _ _ _ _ _ (by decide), p2.2.2.2 5 (by decide) (by decide) (by decide) (by decide) (by decide) (by decide) (by decide)]; exact z18
      · rw [zs_i_n _ _ _ _ _ (by decide), zs_i_n _ _ _ _ _ (by decide), zs_i_o _ _ _ _ _ (by decide), zs_i_v, (k39 30 (by decide)).1]; exact q2.1
      · rw [zs_i_n _ _ _ _ _ (by decide), zs_i_n _ _ _ _ _ (by decide), zs_i_v, (k39 30 (by decide)).1]; exact q2.2.1
    · -- both have it
      obtain ⟨s3, q1, q2, q3, q4⟩ := oC s12 ⟨hC, hD⟩
      have k3 : zk_k [0, 30, 31, 32, 33, 34, 35, 36, 37, 40, 41] s s3 := kc12.tr (q4.1.mono (by decide))
      obtain ⟨s4, a1, a2, a3⟩ := cp_3_31 s3
      have k5 : zk_k [0, 3, 4, 5, 6, 7, 8, 9, 10, 30, 31, 32, 33, 34, 35, 36, 37, 40, 41, 73] s (zs_i s4 73 3 0) := ((k3.mono (by decide)).tr (a2.mono (by decide))).i (by decide)
      have k45 : zk_k [3, 4, 5, 6, 7, 8, 9, 10, 73] s3 (zs_i s4 73 3 0) := (a2.mono (by decide)).i (by decide)
      obtain ⟨s18, hR18, hD18, k18, z18, e18⟩ := start8 (s := zs_i s4 73 3 0) hTN (fun i hi => by rw [(k5 79 (by decide)).1]; exact ⟨(hb i (by omega)).1, (hb i (by omega)).2.1⟩) (fun t' => by rw [(k5 76 (by decide)).1, h765]; exact w1 t')
      obtain ⟨s9, p1, p2, p3, p4⟩ := oR s18 ⟨hR18, hD18⟩
      have k59 : zk_k [76, 80] (zs_i s4 73 3 0) s9 := k18.tr p4.1
      obtain ⟨s6, d1, d2, d3, d4⟩ := copy8 (zs_i (zs_i s9 76 13 0) 76 14 (-1))
      have k56 : zk_k [76, 77, 80] (zs_i s4 73 3 0) s6 := (((k59.mono (by decide)).i (by decide)).i (by decide)).tr (d2.mono (by decide))
      have kT : zk_k [0, 3, 4, 5, 6, 7, 8, 9, 10, 30, 31, 32, 33, 34, 35, 36, 37, 40, 41, 73, 76, 77, 80] s s6 := (k5.mono (by decide)).tr (k56.mono (by decide))
      have e77 : ∀ i, i < 1155 → s6.1 77 i = s9.1 80 i := fun i hi => by rw [d3 i hi, zs_i_n _ _ _ _ _ (by decide), zs_i_n _ _ _ _ _ (by decide)]
      have h77 : ∀ i, 1155 ≤ i → s6.1 77 i = s.1 77 i := fun i hi => by rw [d4 i hi, zs_i_n _ _ _ _ _ (by decide), zs_i_n _ _ _ _ _ (by decide), (k59 77 (by decide)).1, (k5 77 (by decide)).1]
      have e6 : ∀ q, q ∈ [3, 4, 5, 6, 7, 8, 9, 10] → s6.1 q = s4.1 q := fun q hq => by
        have hq2 : q ∉ [76, 77, 80] ∧ q ≠ 73 := by revert q; decide
        rw [(k56 q hq2.1).1, zs_i_n _ _ _ _ _ hq2.2]
      obtain ⟨d0', d1', hz⟩ := draft_rs o3 o1 q3 p3
      have hN : JNx s6 X2.1 (X2.2.1 0) (X2.2.1 1) (X2.2.1 2) (X2.2.1 3) d0' d1' := zRS.cg hz (fun i hi _ => e77 i hi) (fun i hi => by rw [e6 3 (by decide)]; exact a3.1 i hi) (fun i hi => by rw [e6 4 (by decide), e6 5 (by decide), e6 6 (by decide), e6 7 (by decide), e6 8 (by decide)]; exact a3.2.1 i hi) (fun i hi => by rw [e6 9 (by decide)]; exact a3.2.2.1 i hi)
      have hs2 := newsoc (S := 0) hS kT (by decide) hN (fun i hi => by rw [e6 10 (by decide), a3.2.2.2 i hi]; show s3.1 10 i + 1 = _; rw [(k3 10 (by decide)).1]) (by rw [(k56 73 (by decide)).1, zs_i_v]) (by rw [e77 43 (by decide)]; exact p3.1.2.2.1) hab
      refine ⟨nI l2, zs_i s4 73 3 0, s6, X2.1, X2.2.1 0, X2.2.1 1, X2.2.1 2, X2.2.1 3, d0', d1', 0, _, B, ?_, ?_, hs2, fun j => ⟨by simp only []; omega, by simp only []; omega, Nat.le_refl _, by omega⟩, hI.same kT (by decide) h77, ⟨0, by decide, ?_, ?_, fun i hi => absurd hi (Nat.not_lt_zero _)⟩, ⟨?_, ?_⟩, TLD.k kT (by decide)⟩
      · rw [e7, q1, zbd_some, if_pos rfl, a1, zbd_some, f_X2_forget, zb_eq, zbd_some, zs_i_n _ _ _ _ _ (by decide), a3.1 1 (by decide), q3.2.1]
      · have e11 : (zs_i (zs_i s9 76 13 0) 76 14 (-1)).1 76 11 = 0 := by rw [zs_i_o _ _ _ _ _ (by decide), zs_i_o _ _ _ _ _ (by decide)]; exact p2
        have e80 : (zs_i (zs_i s9 76 13 0) 76 14 (-1)).1 80 0 = nI l2 := by rw [zs_i_n _ _ _ _ _ (by decide), zs_i_n _ _ _ _ _ (by decide)]; exact p3.1.2.1
        rw [e18, p1, f_X8_society_97, zb_eq, p2, zs_i_o _ _ _ _ _ (by decide), if_neg (fun z => z p2), f_X8_society_121, zb_eq, e11, if_pos rfl, d1, e80]
      · rw [(k56 0 (by decide)).1, zs_i_n _ _ _ _ _ (by decide), (a2 0 (by decide)).1, (q4.1 0 (by decide)).1]; exact z12
      · rw [(d2 76 (by decide)).1, zs_i_o _ _ _ _ _ (by decide), zs_i_o _ _ _ _ _ (by decide), p4.2 5 (by decide) (by decide) (by decide) (by decide) (by decide) (by decide) (by decide)]; exact z18
      · rw [(k56 30 (by decide)).1, (d2 76 (by decide)).1, zs_i_o _ _ _ _ _ (by decide), zs_i_v, zs_i_n _ _ _ _ _ (by decide), (a2 30 (by decide)).1]; exact q2.1
      · rw [(k56 30 (by decide)).1, (d2 76 (by decide)).1, zs_i_v, zs_i_n _ _ _ _ _ (by decide), (a2 30 (by decide)).1]; exact q2.2
end TOLD
