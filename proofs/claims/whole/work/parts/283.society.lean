section SOC0
variable {b : Nat → Nat} {L N k m w kd j ln : Nat} {s t u : zS} {X : DTY}
theorem start7 (hT : T7 s b L) : ∃ N s12, TN b L N ∧ CT s12 b L N 0 0 ∧ DCx s12 0 X00 ∧ zk_k [30, 31, 32, 36, 40, 41] s s12 ∧ f_X3_read 1 (nI L) s = rd7 s12 := by
  have hL := hT.1
  obtain ⟨s8, f1, f2, f3⟩ := fill7 zd_32 zn_32 (by decide) 0 (zs_i (zs_i (zs_i (zs_i (zs_i (zs_i (zs_i (zs_i (zs_i s 30 1 0) 30 2 (-1)) 31 0 0) 31 1 0) 31 8 0) 31 9 0) 31 10 0) 31 11 0) 31 12 0)
  obtain ⟨s9, g1, g2, g3⟩ := fill7 zd_36 zn_36 (by decide) (-1) s8
  have hk9 : zk_k [30, 31, 32, 36] s s9 := ((((((((((zk_k.rf.i (by decide)).i (by decide)).i (by decide)).i (by decide)).i (by decide)).i (by decide)).i (by decide)).i (by decide)).i (by decide)).tr (f2.mono (by decide))).tr (g2.mono (by decide))
  have e30 : s9.1 30 = (zs_i (zs_i s 30 1 0) 30 2 (-1)).1 30 := by
    rw [(g2 30 (by decide)).1, (f2 30 (by decide)).1]; rfl
  have e31 : s9.1 31 = (zs_i (zs_i (zs_i (zs_i (zs_i (zs_i (zs_i (zs_i (zs_i s 30 1 0) 30 2 (-1)) 31 0 0) 31 1 0) 31 8 0) 31 9 0) 31 10 0) 31 11 0) 31 12 0).1 31 := by
    rw [(g2 31 (by decide)).1, (f2 31 (by decide)).1]
  have hT9 : T7 s9 b L := ⟨hL, fun i hi => by rw [(hk9 1 (by decide)).1]; exact hT.2 i hi⟩
  obtain ⟨N, s10, t1, t2, t3, t4, t5, t6⟩ := split7 hT9 L 0 0 zFU s9 (by omega) (by omega) (show L < 5000 by omega) (Nat.le_refl _) rfl zk_k.rf (fun i hi => absurd hi (Nat.not_lt_zero _))
  have t1' : f_X3_splitText 1 (nI L) s9 = some ((), s10) := t1
  have hTN : TN b L N := ⟨hL, t3, t4, t5⟩
  have q30 : s10.1 30 = (zs_i (zs_i s 30 1 0) 30 2 (-1)).1 30 := by rw [(t2 30 (by decide)).1, e30]
  have q31 := (t2 31 (by decide)).1.trans e31
  refine ⟨N, zs_i s10 30 5 0, hTN, ⟨hTN, fun i hi => ?_, Nat.zero_le _, zs_i_v _ _ _ _, ⟨?_, ?_⟩, ?_, Nat.le_refl _⟩, ⟨?_, ?_, fun f p _ hp => absurd hp (Nat.not_lt_zero _), fun p hp => ?_, fun q hq => ⟨fun _ => ?_, fun z => absurd (show false = true from z) (by decide)⟩⟩, (((hk9.mono (by decide)).tr (t2.mono (by decide))).i (by decide)), ?_⟩
  · rw [zs_i_n _ _ _ _ _ (by decide), zs_i_n _ _ _ _ _ (by decide)]; exact t6 i hi
  · rw [zs_i_o _ _ _ _ _ (by decide), q30]; rfl
  · rw [zs_i_o _ _ _ _ _ (by decide), q30]; rfl
  · rw [zs_i_n _ _ _ _ _ (by decide), q31]; rfl
  · rw [zs_i_n _ _ _ _ _ (by decide), q31]; rfl
  · rw [zs_i_n _ _ _ _ _ (by decide), q31]; rfl
  · rw [zs_i_n _ _ _ _ _ (by decide), (t2 36 (by decide)).1]; exact g3 p hp
  · rw [zs_i_n _ _ _ _ _ (by decide), q31]
    rcases (show q = 0 ∨ q = 1 by omega) with z | z
    · subst z; exact ⟨rfl, rfl⟩
    · subst z; exact ⟨rfl, rfl⟩
  · rw [f_X3_read, zb_eq, zb_eq, f_X5_empty_31, zb_eq, zb_eq, zb_eq, zb_eq, zb_eq, zb_eq, zb_eq, f1, zbd_some, g1, zbd_some, zbd_some, t1', zbd_some, zb_eq]; rfl
theorem plain8 (s : zS) : ∃ s', f_X8_plain 80 s = some ((), s') ∧ zk_k [80] s s' ∧ (∀ j, j < 1155 → (j < 22 ∨ 29 ≤ j) → s'.1 80 j = 0) ∧ ∀ p, p < 7 → s'.1 80 (22 + p) = -1 := by
  obtain ⟨q', t, g1, g2, g3⟩ := zlp (fun q i t => f_X8_plain_2 q 80 (nI i) t) 1155 (fun i t => zk_k [80] s t ∧ ∀ j, j < i → t.1 80 j = 0)
    (fun q i t hi h => by
      refine ⟨zs_i t 80 i 0, ?_, h.1.i (by simp), fun j hj => ?_⟩
      · show f_X8_plain_2 (q + 1) 80 (nI i) t = f_X8_plain_2 q 80 (nI (i + 1)) _
        rw [f_X8_plain_2, if_neg (nI_ge hi (by omega)), wr_80 t i rfl hi, Option.bind_some, zb_eq, nI_1]
      · by_cases e : j = i
        · rw [e, zs_i_v]
        · rw [zs_i_o _ _ _ _ _ e]; exact h.2 j (by omega)) 1155 0 zFU s rfl (by decide) ⟨zk_k.rf, fun j hj => absurd hj (Nat.not_lt_zero _)⟩
  obtain ⟨r', v, h1, h2, h3, h4⟩ := zlp (fun q i t => f_X8_plain_21 q 80 (nI i) t) 7 (fun i t => zk_k [80] s t ∧ (∀ j, j < 1155 → (j < 22 ∨ 29 ≤ j) → t.1 80 j = 0) ∧ ∀ p, p < i → t.1 80 (22 + p) = -1)
    (fun q i t hi h => by
      refine ⟨zs_i t 80 (22 + i) (-1), ?_, h.1.i (by simp), fun j hj hj2 => ?_, fun p hp => ?_⟩
      · show f_X8_plain_21 (q + 1) 80 (nI i) t = f_X8_plain_21 q 80 (nI (i + 1)) _
        rw [f_X8_plain_21, if_neg (nI_ge hi (by omega)), wr_80 t (22 + i) (nI_add _ _) (by omega), Option.bind_some, zb_eq, nI_1]
      · rw [zs_i_o _ _ _ _ _ (by omega)]; exact h.2.1 j hj hj2
      · by_cases e : p = i
        · rw [e, zs_i_v]
        · rw [zs_i_o _ _ _ _ _ (by omega)]; exact h.2.2 p (by omega)) 7 0 zFU t rfl (by decide) ⟨g2, fun j hj _ => g3 j hj, fun j hj => absurd hj (Nat.not_lt_zero _)⟩
  have g1' : f_X8_plain 80 s = f_X8_plain_2 (q' + 1) 80 (nI 1155) t := g1
  have h1' : f_X8_plain_21 zFU 80 0 t = f_X8_plain_21 (r' + 1) 80 (nI 7) v := h1
  refine ⟨v, ?_, h2, h3, h4⟩
  rw [g1', f_X8_plain_2, if_pos (nI_le (Nat.le_refl _) (by decide)), h1', f_X8_plain_21, if_pos (nI_le (Nat.le_refl _) (by decide))]
theorem copy8 (s : zS) : ∃ s', f_X8_society_141 zFU 0 s = some (s.1 80 0, s') ∧ zk_k [77] s s' ∧ (∀ j, j < 1155 → s'.1 77 j = s.1 80 j) ∧ ∀ j, 1155 ≤ j → s'.1 77 j = s.1 77 j := by
  obtain ⟨q', t, g1, g2, g3, g4⟩ := zlp (fun q i t => f_X8_society_141 q (nI i) t) 1155 (fun i t => zk_k [77] s t ∧ (∀ j, j < i → t.1 77 j = s.1 80 j) ∧ ∀ j, 1155 ≤ j → t.1 77 j = s.1 77 j)
    (fun q i t hi h => by
      refine ⟨zs_i t 77 i (s.1 80 i), ?_, h.1.i (by simp), fun j hj => ?_, fun j hj => ?_⟩
      · show f_X8_society_141 (q + 1) (nI i) t = f_X8_society_141 q (nI (i + 1)) _
        rw [f_X8_society_141, if_neg (nI_ge hi (by omega)), rd_80 t i rfl hi, Option.bind_some, (h.1 80 (by decide)).1, wr_77 t i rfl (by omega), Option.bind_some, zb_eq, nI_1]
      · by_cases e : j = i
        · rw [e, zs_i_v]
        · rw [zs_i_o _ _ _ _ _ e]; exact h.2.1 j (by omega)
      · rw [zs_i_o _ _ _ _ _ (by omega)]; exact h.2.2 j hj) 1155 0 zFU s rfl (by decide) ⟨zk_k.rf, fun j hj => absurd hj (Nat.not_lt_zero _), fun _ _ => rfl⟩
  have g1' : f_X8_society_141 zFU 0 s = f_X8_society_141 (q' + 1) (nI 1155) t := g1
  refine ⟨t, ?_, g2, g3, g4⟩
  rw [g1', f_X8_society_141, if_pos (nI_le (Nat.le_refl _) (by decide)), rd_77 t (x := 0) 0 rfl (by decide), Option.bind_some, g3 0 (by decide)]
theorem start8 (hTN : TN b L N) (hb : ∀ i, i < L → b i < 256 ∧ s.1 79 i = nI (b i)) (hw : ∀ t, f_X8_within (nI L).toInt64 0 (s.1 76 5).toInt64 t = some (1, t)) : ∃ s18, RT s18 b L N 0 0 ∧ DR s18 0 X00 ∧ zk_k [76, 80] s s18 ∧ s18.1 76 5 = 0 ∧ f_X8_society (nI L) s = rd8 s18 := by
  have hL := hTN.1
  obtain ⟨s17, p1, p2, p3, p4⟩ := plain8 (zs_i (zs_i (zs_i (zs_i (zs_i s 76 0 0) 76 8 (nI L)) 76 5 0) 76 7 0) 76 11 0)
  have e76 : s17.1 76 = (zs_i (zs_i (zs_i (zs_i (zs_i s 76 0 0) 76 8 (nI L)) 76 5 0) 76 7 0) 76 11 0).1 76 := (p2 76 (by decide)).1
  have hk17 : zk_k [76, 80] s s17 := (((((zk_k.rf.i (by decide)).i (by decide)).i (by decide)).i (by decide)).i (by decide)).tr (p2.mono (by decide))
  have hT17 : T8 s17 b L := ⟨hL, by rw [e76]; rfl, fun i hi => by rw [(hk17 79 (by decide)).1]; exact hb i hi⟩
  obtain ⟨s18, n1, n2, n3, n4, n5, n6⟩ := next8 (p := 0) hT17 (by rw [e76]; rfl) (Nat.zero_le _)
  have e80 : s18.1 80 = s17.1 80 := (n2.1 80 (by decide)).1
  have z80 : ∀ j, j < 1155 → (j < 22 ∨ 29 ≤ j) → s18.1 80 j = 0 := fun j h1 h2 => by rw [e80]; exact p3 j h1 h2
  refine ⟨s18, ⟨hTN, hT17.x n2, Nat.zero_le _, n3, ?_, n5, n6, ?_, z80 254 (by decide) (by decide), Nat.le_refl _⟩, ⟨⟨z80 1 (by decide) (by decide), z80 0 (by decide) (by decide), z80 43 (by decide) (by decide), fun f p _ hp => absurd hp (Nat.not_lt_zero _), fun p hp => by rw [e80]; exact p4 p hp, fun q hq => ⟨fun _ => z80 _ (by omega) (by omega), fun z => absurd (show false = true from z) (by decide)⟩⟩, fun f p hf _ hp7 => ?_⟩, hk17.tr (n2.1.mono (by decide)), ?_, ?_⟩
  · rw [n4]
    show nI (if lxB b L 0 < L then lxN b L (lxB b L 0) else lxB b L 0) = nI (if 0 < N then lxN b L (lxB b L 0) else L)
    by_cases e : 0 < N
    · rw [if_pos (hTN.2.2.2 0 e), if_pos e]
    · have : N = 0 := by omega
      subst this
      rw [hTN.2.2.1, if_neg (Nat.lt_irrefl _), if_neg (Nat.lt_irrefl _)]
  · rw [n2.2 11 (by decide) (by decide) (by decide) (by decide), e76]; rfl
  · have := rbs_r (f := f) p (by omega) hp7
    refine z80 _ (by omega) ?_
    omega
  · rw [n2.2 5 (by decide) (by decide) (by decide) (by decide), e76]; rfl
  · rw [f_X8_society, zb_eq, zs_i_o _ _ _ _ _ (by decide), hw, zbd_some, if_pos (by decide), zb_eq, zb_eq, zb_eq, zb_eq, p1, zbd_some, n1, zbd_some]; rfl
theorem draft_rs {s7 s8 : zS} (hX : DX X m) (hm : m ≤ 900) (hC : DCx s7 ln X) (hR : DR s8 ln X) : ∃ c0 c1, zRS (s8.1 80) (s7.1 31) (s7.1 32) (s7.1 33) (s7.1 34) (s7.1 35) (s7.1 36) (s7.1 37) X.1 (X.2.1 0) (X.2.1 1) (X.2.1 2) (X.2.1 3) c0 c1 := by
  obtain ⟨a1, a2, a3, a4, a5⟩ := hC
  obtain ⟨⟨r1, r2, r3, r4, r5, r6⟩, -⟩ := hR
  obtain ⟨x1, x2, x3, x4, x5⟩ := hX
  have law : ∀ w, w < 2 → ∃ c, zRL (s8.1 80) (s7.1 31) (s7.1 37) w c := fun w hw => by
    by_cases h : X.2.2.2.2.2 w = true
    · obtain ⟨p1, p2, p3⟩ := (a5 w hw).2 h
      obtain ⟨q1, q2, q3, q4⟩ := (r6 w hw).2 h
      obtain ⟨y1, y2⟩ := x5 w hw h
      exact ⟨X.2.2.2.2.1 w, Or.inr ⟨q1, y2, X.2.2.2.1 w, X.2.2.2.1 w, by omega, by omega, q2, q3, p1, p2, fun i hi => ⟨q4 i hi, p3 i hi⟩⟩⟩
    · have h : X.2.2.2.2.2 w = false := by
        cases e : X.2.2.2.2.2 w with
        | false => rfl
        | true => exact absurd e h
      obtain ⟨p1, p2⟩ := (a5 w hw).1 h
      exact ⟨[], Or.inl ⟨(r6 w hw).1 h, by rw [p1, p2], rfl⟩⟩
  obtain ⟨c0, l0⟩ := law 0 (by decide)
  obtain ⟨c1, l1⟩ := law 1 (by decide)
  refine ⟨c0, c1, ⟨x1, r1, a1, by rw [a2, r2]⟩, fun p hp => ?_, fun p hp => ?_, l0, l1⟩
  · obtain ⟨b1, b2, b3, b4⟩ := x2 p hp
    exact ⟨⟨r4 0 p (by decide) hp, a3 0 p (by decide) hp, b1⟩, ⟨r4 1 p (by decide) hp, a3 1 p (by decide) hp, b2⟩, ⟨r4 2 p (by decide) hp, a3 2 p (by decide) hp, b3⟩, ⟨r4 3 p (by decide) hp, a3 3 p (by decide) hp, b4⟩, by rw [a4 p (by omega), r5 p (by omega)]⟩
  · show s8.1 80 (22 + p) = -1 ∨ ∃ q, q < X.1 ∧ q ≠ p ∧ s8.1 80 (22 + p) = nI q ∧ s8.1 80 (22 + q) = nI p
    rw [r5 p (by omega)]
    rcases x3 p hp with h | ⟨q, q1, q2, q3, q4⟩
    · exact Or.inl h
    · exact Or.inr ⟨q, q1, q2, q3, by rw [r5 q (by omega)]; exact q4⟩
end SOC0
