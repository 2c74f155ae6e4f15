section OPS2
variable {n u : Nat} {G M H D A B A2 B2 : Nat → Nat} {c0 c1 : List Nat} {s a b : zS} {st : (Nat → Nat) × (Nat → Nat) × (Nat → Option Nat)}
theorem wi_c {x : Int32} {m : Nat} {y : Int64} (hm : m + 1 < 2 ^ 31) (hy : y.toInt = m) : ((∀ t, f_X8_within x.toInt64 0 y t = some (0, t)) ∧ (x < 0 ∨ (¬ x < 0 ∧ nI (m + 1) ≤ x))) ∨ ∃ v, v ≤ m ∧ x = nI v ∧ ∀ t, f_X8_within x.toInt64 0 y t = some (1, t) := by
  rcases i_cases x (m + 1) hm with ⟨h, -⟩ | ⟨h0, h⟩ | ⟨v, hv, rfl⟩
  · exact Or.inl ⟨fun t => wi_neg t h, Or.inl h⟩
  · exact Or.inl ⟨fun t => wi_big t hm hy h, Or.inr ⟨h0, h⟩⟩
  · exact Or.inr ⟨v, by omega, rfl, fun t => wi_in t (by omega) (by omega) hy⟩
theorem i_nlt {x : Int32} {m : Nat} (h : nI m ≤ x) : ¬ x < nI m := fun z => by
  have h1 := Int32.le_iff_toInt_le.mp h
  have h2 := Int32.lt_iff_toInt_lt.mp z
  omega
theorem q_stroke (hN : JNx s n G M H D c0 c1) (hK : JK s n G M H c0 c1 A B) (hU : JU2 s n u) (hab : AB A B 100) (x y : Int32) : OR (f_X7_stroke x y) (f_X8_stroke x y) s n H D c0 c1 A B := by
  obtain ⟨W, hW, hV⟩ := hN.W
  have hn := hN.1.1
  have hR : RSt s n (G, M, W) c0 c1 := ⟨hN.m, hV⟩
  obtain ⟨s1, p1, p2, p3⟩ := hold_7 s
  have hS1 : CSt s1 n (G, M, W) H c0 c1 A B := ⟨hK.w p2 (by decide), hW.keep p2 (by decide)⟩
  have hN1 : JNx s1 n G M H D c0 c1 := hN.keep p2 (by decide)
  have no : f_X1_tryStroke x y s1 = some (1, s1) → f_X8_stroke x y s1 = some (-11, zs_i s1 76 0 0) → OR (f_X7_stroke x y) (f_X8_stroke x y) s n H D c0 c1 A B := fun h1 h2 => by
    refine OR.go (r := -11) (a := s1) (b := zs_i s1 76 0 0) hN hU ?_ h2 hS1 (p2.mono (by decide)) (hR.keep (p2 77 (by decide)).1) RDy.th AG.rf
    rw [f_X7_stroke, p1, zbd_some, h1, zbd_some, if_neg (by decide)]; rfl
  rcases per_cases hN1 x with ⟨h1, h2⟩ | ⟨p, hp, rfl⟩
  · refine no ?_ ?_
    · rw [f_X1_tryStroke, h1, zbd_some, if_pos rfl]; rfl
    · rw [f_X8_stroke, zb_eq, h2 _ hN1.th, zbd_some, if_pos rfl]; rfl
  · have ex : f_X5_has_3 (nI p) s1 = some (1, s1) := has_in hN1 hp
    have ex8 : f_X8_isPerson (nI p).toInt64 (zs_i s1 76 0 0) = some (1, zs_i s1 76 0 0) := per_in hN1.th hp
    rcases wi_c (x := y) (m := 8) (y := (8 : Int64)) (by decide) rfl with ⟨h1, h2⟩ | ⟨v, hv, rfl, h1⟩
    · have ei : ∀ t, f_X8_isInkCell y.toInt64 t = some (0, t) := fun t => by
        rw [f_X8_isInkCell, h1, zbd_some, if_pos (Or.inl rfl)]
      refine no ?_ ?_
      · rw [f_X1_tryStroke, ex, zbd_some, if_neg (by decide)]
        rcases h2 with h | ⟨h, h'⟩
        · rw [if_pos h]; rfl
        · rw [if_neg h, if_neg (i_nlt h')]; rfl
      · rw [f_X8_stroke, zb_eq, ex8, zbd_some, if_neg (by decide), ei, zbd_some, if_neg (fun z => z rfl)]; rfl
    · have ei : ∀ t, f_X8_isInkCell (nI v).toInt64 t = some (1, t) := fun t => by
        rw [f_X8_isInkCell, h1, zbd_some, if_pos (Or.inr rfl)]
      obtain ⟨s3, A2, a1, a2, a3, a4⟩ := stroke_7 hS1 (a := p) (b := v) (by omega) (by omega) (hab.less (by omega))
      rw [zdo_2, if_pos ⟨hp, by omega⟩] at a1 a2
      have hx := (a2.1.1.1.1.2.2.1 p hp).1
      have hx1 : s3.1 4 p = nI (zsg G p (G p ^^^ 2 ^ v) p) := hx.1
      have hx2 : zsg G p (G p ^^^ 2 ^ v) p < 512 := hx.2
      have hv1 : zsg G p (G p ^^^ 2 ^ v) p = G p ^^^ 2 ^ v := if_pos rfl
      rw [hv1] at hx1 hx2
      refine OR.did (r := nI ((G p ^^^ 2 ^ v) / 2 ^ v) &&& (1 : Int32)) hN hW hU p2 p3 (a3.mono (by decide)) a2 (a4.up (by decide)) (fun a f1 f2 => ?_) (fun a f1 => ?_)
      · rw [f_X7_stroke, p1, zbd_some, a1, zbd_some, if_pos (show nI 0 = (0 : Int32) from rfl), f1, zbd_some, rd_4 a p rfl (by omega), Option.bind_some, (f2 4 (by decide)).1, hx1, ush_n (by omega) (by omega)]
      · have hRa : RSt (zs_i a 76 0 0) n (G, M, W) c0 c1 := hR.keep (f1 77 (by decide)).1
        obtain ⟨t1, g1, g2, g3⟩ := keeps_8 (zs_i a 76 0 0)
        have r1 : RSt t1 n (G, M, W) c0 c1 := RSt.keep hRa (g2 77 (by decide)).1
        obtain ⟨i1, i2⟩ := stroke8 r1 hp (show v < 9 by omega)
        refine ⟨_, t1, _, RDy.th, hRa, g1, i2.y, i1, fun b j1 j2 j3 => ?_⟩
        have e8 : f_X8_isPerson (nI p).toInt64 (zs_i a 76 0 0) = some (1, zs_i a 76 0 0) := by rw [perM hRa.1 (by omega), if_pos hp]
        rw [f_X8_stroke, zb_eq, e8, zbd_some, if_neg (by decide), ei, zbd_some, if_pos (by decide), g1, zbd_some, rd_77 t1 (29 + p) (nI_add _ _) (by omega), Option.bind_some, (r1.1.2.2.1 p hp).1.1, one_shl v (by omega), nI_xor, wr_77 t1 (29 + p) (nI_add _ _) (by omega), Option.bind_some, j1, zbd_some, rd_77 b (29 + p) (nI_add _ _) (by omega), Option.bind_some, j3 (29 + p) (by omega), zs_i_v, show zo_shr (nI (G p ^^^ 2 ^ v)) (nI v) = nI ((G p ^^^ 2 ^ v) / 2 ^ v) from pk_shrN (by omega) _ v (s_l v (by omega))]
theorem q_mark (hN : JNx s n G M H D c0 c1) (hK : JK s n G M H c0 c1 A B) (hU : JU2 s n u) (hab : AB A B 100) (x y : Int32) : OR (f_X7_mark x y) (f_X8_mark x y) s n H D c0 c1 A B := by
  obtain ⟨W, hW, hV⟩ := hN.W
  have hn := hN.1.1
  have hR : RSt s n (G, M, W) c0 c1 := ⟨hN.m, hV⟩
  obtain ⟨s1, p1, p2, p3⟩ := hold_7 s
  have hS1 : CSt s1 n (G, M, W) H c0 c1 A B := ⟨hK.w p2 (by decide), hW.keep p2 (by decide)⟩
  have hN1 : JNx s1 n G M H D c0 c1 := hN.keep p2 (by decide)
  have no : f_X7_mark x y s = some (-11, s1) → f_X8_mark x y s1 = some (-11, zs_i s1 76 0 0) → OR (f_X7_mark x y) (f_X8_mark x y) s n H D c0 c1 A B := fun h1 h2 => by
    exact OR.go (r := -11) (a := s1) (b := zs_i s1 76 0 0) hN hU h1 h2 hS1 (p2.mono (by decide)) (hR.keep (p2 77 (by decide)).1) RDy.th AG.rf
  rcases per_cases hN1 x with ⟨h1, h2⟩ | ⟨p, hp, rfl⟩
  · refine no ?_ ?_
    · rw [f_X7_mark, p1, zbd_some, h1, zbd_some, if_pos rfl, f_X7_mark_31, f_X1_tryMark, h1, zbd_some, if_pos rfl, f_X1_tryMark_21, zbd_some, if_neg (by decide)]; rfl
    · rw [f_X8_mark, zb_eq, h2 _ hN1.th, zbd_some, if_pos rfl]; rfl
  · have ex : f_X5_has_3 (nI p) s1 = some (1, s1) := has_in hN1 hp
    have ex8 : f_X8_isPerson (nI p).toInt64 (zs_i s1 76 0 0) = some (1, zs_i s1 76 0 0) := per_in hN1.th hp
    have ef : f_X7_mark (nI p) y s = f_X7_mark_31 (nI p) y (nI (M p)) s1 := by
      rw [f_X7_mark, p1, zbd_some, ex, zbd_some, if_neg (by decide), rd_5 s1 p rfl (by omega), Option.bind_some, (hN1.2.1 p hp).2.1.2.1]
    rcases wi_c (x := y) (m := 9) (y := (9 : Int64)) (by decide) rfl with ⟨h1, h2⟩ | ⟨v, hv, rfl, h1⟩
    · have et : f_X1_tryMark (nI p) y s1 = some (1, s1) := by
        rw [f_X1_tryMark, ex, zbd_some, if_neg (by decide)]
        rcases h2 with h | ⟨h, h'⟩
        · rw [if_pos h]; rfl
        · rw [if_neg h, if_neg (i_nlt h')]; rfl
      refine no ?_ ?_
      · rw [ef, f_X7_mark_31, et, zbd_some, if_neg (by decide)]; rfl
      · rw [f_X8_mark, zb_eq, ex8, zbd_some, if_neg (by decide), h1, zbd_some, if_neg (fun z => z rfl)]; rfl
    · obtain ⟨s3, B2, a1, a2, a3, a4⟩ := mark_7 hS1 (a := p) (b := v) (by omega) (by omega) (hab.less (by omega))
      rw [zdo_3, if_pos ⟨hp, by omega⟩] at a1 a2
      refine OR.did (r := nI (M p)) hN hW hU p2 p3 (a3.mono (by decide)) a2 (a4.up (by decide)) (fun a f1 f2 => ?_) (fun a f1 => ?_)
      · rw [ef, f_X7_mark_31, a1, zbd_some, if_pos (show nI 0 = (0 : Int32) from rfl), f1, zbd_some]
      · have hRa : RSt (zs_i a 76 0 0) n (G, M, W) c0 c1 := hR.keep (f1 77 (by decide)).1
        obtain ⟨t1, g1, g2, g3⟩ := keeps_8 (zs_i a 76 0 0)
        have r1 : RSt t1 n (G, M, W) c0 c1 := RSt.keep hRa (g2 77 (by decide)).1
        obtain ⟨i1, i2⟩ := mark8 r1 hp (show v < 10 by omega)
        refine ⟨_, t1, _, RDy.th, hRa, g1, i2.y, i1, fun b j1 j2 j3 => ?_⟩
        have e8 : f_X8_isPerson (nI p).toInt64 (zs_i a 76 0 0) = some (1, zs_i a 76 0 0) := by rw [perM hRa.1 (by omega), if_pos hp]
        rw [f_X8_mark, zb_eq, e8, zbd_some, if_neg (by decide), h1, zbd_some, if_pos (by decide), g1, zbd_some, wr_77 t1 (36 + p) (nI_add _ _) (by omega), Option.bind_some, j1, zbd_some, rd_90 b (14 + p) (nI_add _ _) (by omega), Option.bind_some, j2, g3 _ (by omega), show 22 + (14 + p) = 36 + p by omega, (hRa.1.2.2.1 p hp).2.1]
/-- the class gives back what was held -/
theorem giveback7 {G0 M0 : Nat → Nat} {W0 : Nat → Option Nat} (hK : JK s n G M H c0 c1 A B) (hr : ∀ p, p < n → s.1 75 (3 * p) = oI (W0 p) ∧ (s.1 75 (3 * p + 1) = nI (G0 p) ∧ G0 p < 512) ∧ s.1 75 (3 * p + 2) = nI (M0 p) ∧ M0 p < 10) (hv : zvv n W0) (hab : AB A B 1) : ∃ s' G2 M2 A2 B2, f_X2_giveBack s = some ((), s') ∧ CSt s' n (G2, M2, W0) H c0 c1 A2 B2 ∧ zk_k [4, 5, 8, 10, 11] s s' ∧ AG A B A2 B2 1 ∧ ∀ p, p < n → G2 p = G0 p ∧ M2 p = M0 p := by
  have hn := hK.1.1.1.1
  obtain ⟨q', t, g1, G2, M2, A2, B2, g2, g3, g4, g5, g6⟩ := zlp (fun q i t => f_X2_giveBack_2 q (nI i) t) 7 (fun i t => ∃ G2 M2 A2 B2, JK t n G2 M2 H c0 c1 A2 B2 ∧ zk_k [4, 5, 8, 10, 11] s t ∧ (∀ p, p < i → p < n → t.1 8 p = oI (W0 p) ∧ G2 p = G0 p ∧ M2 p = M0 p) ∧ AG A B A2 B2 1 ∧ ∀ p, i ≤ p → A2 p = A p ∧ B2 p = B p)
    (fun q i t hi h => by
      obtain ⟨G1, M1, A1, B1, h1, h2, h3, h4, h5⟩ := h
      have k8 : zk_k [8] t (zs_i t 8 i (s.1 75 (3 * i))) := zk_k.rf.i (by simp)
      have hK8 := h1.w k8 (by decide)
      have hsg : (i < n ∧ (∃ g, s.1 75 (3 * i + 1) = nI g ∧ g < 512 ∧ (if i < n then zsg G1 i (G0 i) else G1) = zsg G1 i g)) ∨ (n ≤ i ∧ (if i < n then zsg G1 i (G0 i) else G1) = G1) := by
        by_cases e : i < n
        · exact Or.inl ⟨e, G0 i, (hr i e).2.1.1, (hr i e).2.1.2, if_pos e⟩
        · exact Or.inr ⟨by omega, if_neg e⟩
      have hmg : (i < n ∧ (∃ g, s.1 75 (3 * i + 2) = nI g ∧ g < 10 ∧ (if i < n then zsg M1 i (M0 i) else M1) = zsg M1 i g)) ∨ (n ≤ i ∧ (if i < n then zsg M1 i (M0 i) else M1) = M1) := by
        by_cases e : i < n
        · exact Or.inl ⟨e, M0 i, (hr i e).2.2.1, (hr i e).2.2.2, if_pos e⟩
        · exact Or.inr ⟨by omega, if_neg e⟩
      have hb := hab i hi
      have he := h5 i (Nat.le_refl _)
      obtain ⟨s4, A4, a1, a2, a3, a4, a5, a6, a7⟩ := setsign7 hK8 hi (s.1 75 (3 * i + 1)) hsg (by omega)
      obtain ⟨s6, B6, b1, b2, b3, b4, b5, b6, b7⟩ := setmark7 a2 hi (s.1 75 (3 * i + 2)) hmg (by omega)
      have e2 : (zs_i t 8 i (s.1 75 (3 * i))).1 75 = s.1 75 := by rw [zs_i_n _ _ _ _ _ (by decide), (h2 75 (by decide)).1]
      have e4 : s4.1 75 = s.1 75 := by rw [(a3 75 (by decide)).1, e2]
      have k6 : zk_k [4, 5, 8, 10, 11] s s6 := ((h2.tr (k8.mono (by decide))).tr (a3.mono (by decide))).tr (b3.mono (by decide))
      have e8 : s6.1 8 = (zs_i t 8 i (s.1 75 (3 * i))).1 8 := by rw [(b3 8 (by decide)).1, (a3 8 (by decide)).1]
      show ∃ a', f_X2_giveBack_2 (q + 1) (nI i) t = f_X2_giveBack_2 q (nI (i + 1)) a' ∧ _
      rw [f_X2_giveBack_2, if_neg (nI_ge hi (by omega)), rd_75 t (3 * i) (pk_mul _ _) (by omega), Option.bind_some, (h2 75 (by decide)).1, wr_8 t i rfl hi, Option.bind_some, rd_75 _ (3 * i + 1) (by rw [pk_mul]; exact nI_1 _) (by omega), Option.bind_some, e2, a1, zbd_some, rd_75 _ (3 * i + 2) (by rw [pk_mul, nI_add]) (by omega), Option.bind_some, e4, b1, zbd_some, zb_eq, nI_1]
      refine ⟨s6, rfl, _, _, A4, B6, b2, k6, fun p hp hpn => ?_, fun j => ?_, fun p hp => ?_⟩
      · rw [e8]
        by_cases e : p = i
        · subst e
          rw [zs_i_v, if_pos hpn, if_pos hpn]
          exact ⟨(hr p hpn).1, if_pos rfl, if_pos rfl⟩
        · obtain ⟨c1', c2, c3⟩ := h3 p (by omega) hpn
          rw [zs_i_o _ _ _ _ _ e]
          refine ⟨c1', ?_, ?_⟩
          · split
            · rw [zsg, if_neg e]; exact c2
            · exact c2
          · split
            · rw [zsg, if_neg e]; exact c3
            · exact c3
      · have := h4 j
        by_cases e : j = i
        · subst e; omega
        · have := a5 j e; have := b5 j e; omega
      · have := a5 p (by omega); have := b5 p (by omega); have := h5 p (by omega); omega) 7 0 zFU s (by decide) (by decide) ⟨G, M, A, B, hK, zk_k.rf, fun p hp => by omega, AG.rf, fun _ _ => ⟨rfl, rfl⟩⟩
  have g1' : f_X2_giveBack s = f_X2_giveBack_2 (q' + 1) (nI 7) t := g1
  rw [g1', f_X2_giveBack_2, if_pos (nI_le (Nat.le_refl _) (by decide))]
  exact ⟨t, G2, M2, A2, B2, rfl, ⟨g2, ⟨fun p hp => (g4 p (by omega) hp).1, hv⟩⟩, g3, g5, fun p hp => (g4 p (by omega) hp).2⟩
end OPS2
