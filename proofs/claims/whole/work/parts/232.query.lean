def MC : List Nat := [81, 82, 83, 84, 85, 86, 87, 88, 89, 91, 92, 93, 94, 95, 96]
/-- a call that asks: both answer alike, and nothing is changed that lasts -/
def QR (f g : zS → Option (Int32 × zS)) (s : zS) (n : Nat) (G M H : Nat → Nat) (c0 c1 : List Nat) (A B : Nat → Nat) : Prop := ∃ (r : Int32) (s1 s2 : zS), f s = some (r, s1) ∧ g s1 = some (r, s2) ∧ JK s1 n G M H c0 c1 A B ∧ zk_k CC s s1 ∧ zk_m MC s1 s2 ∧ s2.1 93 0 = s1.1 93 0
section QUERY
variable {n : Nat} {G M H D A B : Nat → Nat} {c0 c1 : List Nat} {s : zS}
theorem QR.no {f g : zS → Option (Int32 × zS)} (hK : JK s n G M H c0 c1 A B) (r : Int32) (h1 : f s = some (r, s)) (h2 : g s = some (r, zs_i s 76 0 0)) : QR f g s n G M H c0 c1 A B := ⟨r, s, _, h1, h2, hK, zk_k.rf, zk_m.th, by rw [zs_i_n _ _ _ _ _ (by decide)]⟩
theorem JNx.c {t : zS} (hN : JNx s n G M H D c0 c1) (hk : zk_k CC s t) : JNx t n G M H D c0 c1 := hN.keep hk (by decide)
theorem JNx.th (hN : JNx s n G M H D c0 c1) : JNx (zs_i s 76 0 0) n G M H D c0 c1 := hN.keep (zk_k.rf.i (S := [76]) (by simp)) (by decide)
theorem per_cases (hN : JNx s n G M H D c0 c1) (x : Int32) : (f_X5_has_3 x s = some (0, s) ∧ ∀ t, JNx t n G M H D c0 c1 → f_X8_isPerson x.toInt64 t = some (0, t)) ∨ ∃ p, p < n ∧ x = nI p := by
  have hn := hN.1.1
  rcases i_cases x n (by omega) with ⟨h, -⟩ | ⟨h0, h⟩ | h
  · exact Or.inl ⟨has_neg h, fun t ht => per_neg ht h⟩
  · exact Or.inl ⟨has_big hN h0 h, fun t ht => per_big ht h⟩
  · exact Or.inr h
theorem two_cases (hN : JNx s n G M H D c0 c1) (x y : Int32) : (f_X5_areTwo_3 x y s = some (0, s) ∧ ∀ t, JNx t n G M H D c0 c1 → f_X8_areTwo x.toInt64 y.toInt64 t = some (0, t)) ∨ ∃ p q, p < n ∧ q < n ∧ p ≠ q ∧ x = nI p ∧ y = nI q ∧ f_X5_areTwo_3 x y s = some (1, s) ∧ ∀ t, JNx t n G M H D c0 c1 → f_X8_areTwo x.toInt64 y.toInt64 t = some (1, t) := by
  have hn := hN.1.1
  unfold f_X5_areTwo_3 f_X5_areTwo_3_25 f_X5_areTwo_3_26 f_X8_areTwo f_X8_areTwo_26 f_X8_areTwo_27
  rcases per_cases hN x with ⟨h1, h2⟩ | ⟨p, hp, rfl⟩
  · refine Or.inl ⟨?_, fun t ht => ?_⟩
    · rw [h1, zbd_some, if_pos rfl]; rfl
    · rw [h2 t ht, zbd_some, if_pos rfl]; rfl
  · rw [has_in hN hp, zbd_some, if_neg (by decide)]
    rcases per_cases hN y with ⟨h1, h2⟩ | ⟨q, hq, rfl⟩
    · refine Or.inl ⟨?_, fun t ht => ?_⟩
      · rw [h1, zbd_some, if_pos rfl]; rfl
      · rw [per_in ht hp, zbd_some, if_neg (by decide), h2 t ht, zbd_some, if_pos rfl]; rfl
    · rw [has_in hN hq, zbd_some, if_neg (by decide)]
      by_cases e : p = q
      · subst e
        refine Or.inl ⟨?_, fun t ht => ?_⟩
        · rw [if_pos rfl]; rfl
        · rw [per_in ht hp, zbd_some, if_neg (by decide), per_in ht hp, zbd_some, if_neg (by decide), if_pos ((lg_eq0 _ _).mpr rfl)]; rfl
      · refine Or.inr ⟨p, q, hp, hq, e, rfl, rfl, ?_, fun t ht => ?_⟩
        · rw [if_neg (ne_of_nI e (by omega) (by omega))]; rfl
        · rw [per_in ht hp, zbd_some, if_neg (by decide), per_in ht hq, zbd_some, if_neg (by decide), if_neg (fun z => ne_of_nI e (by omega) (by omega) ((il_eq _ _).mp ((lg_eq0 _ _).mp z)))]; rfl
theorem q_crosses (hN : JNx s n G M H D c0 c1) (hK : JK s n G M H c0 c1 A B) (a b : Int32) : QR (f_X7_crosses a b) (f_X8_crosses a b) s n G M H c0 c1 A B := by
  rcases two_cases hN a b with ⟨h1, h2⟩ | ⟨p, q, hp, hq, hpq, rfl, rfl, h1, h2⟩
  · refine QR.no hK (-2) ?_ ?_
    · rw [f_X7_crosses, h1, zbd_some, if_pos rfl]; rfl
    · rw [f_X8_crosses, zb_eq, h2 _ hN.th, zbd_some, if_pos rfl]; rfl
  · obtain ⟨s1, a1, a2, a3⟩ := few7Q hK.1.1 hpq hp hq
    have a3' : zk_k RC s s1 := a3.mono (by decide)
    have hR1 : JR s1 n G M c0 c1 A B := ⟨a2, hK.1.2.1.keep a3 (by decide), hK.1.2.2.keep a3 (by decide)⟩
    have hN1 : JNx s1 n G M H D c0 c1 := hN.keep a3 (by decide)
    obtain ⟨s2, b1, b2⟩ := cross8 hN1.th.m hp hq hpq
    refine ⟨nI (zc2 G p q), s1, s2, ?_, ?_, hK.r hR1 a3', a3.mono (by decide), zk_m.th.tr (b2.mono (by decide)), ?_⟩
    · rw [f_X7_crosses, h1, zbd_some, if_neg (by decide), a1, zbd_some]; rfl
    · rw [f_X8_crosses, zb_eq, h2 _ hN1.th, zbd_some, if_neg (by decide), b1, zbd_some]; rfl
    · rw [(b2.1 93 (by decide)).1, zs_i_n _ _ _ _ _ (by decide)]
theorem q_likes (hN : JNx s n G M H D c0 c1) (hK : JK s n G M H c0 c1 A B) (a b : Int32) : QR (f_X7_likes a b) (f_X8_likes a b) s n G M H c0 c1 A B := by
  have hn := hN.1.1
  rcases two_cases hN a b with ⟨h1, h2⟩ | ⟨p, q, hp, hq, hpq, rfl, rfl, h1, h2⟩
  · refine QR.no hK (-99000002) ?_ ?_
    · rw [f_X7_likes, h1, zbd_some, if_pos rfl]; rfl
    · rw [f_X8_likes, zb_eq, h2 _ hN.th, zbd_some, if_neg (fun z => z rfl)]
  · obtain ⟨s1, a1, a2, a3⟩ := lik7 hK.1 hp hq hpq
    have hN1 : JNx s1 n G M H D c0 c1 := hN.keep a3 (by decide)
    obtain ⟨s2, b1, b2, b3, b4, b5⟩ := lays8 hN1.th.m
    refine ⟨zlk G M c1 p q, s1, s2, ?_, ?_, hK.r a2 a3, a3.mono (by decide), zk_m.th.tr (b5.mono (by decide)), ?_⟩
    · rw [f_X7_likes, h1, zbd_some, if_neg (by decide), a1, zbd_some]; rfl
    · rw [f_X8_likes, zb_eq, h2 _ hN1.th, zbd_some, if_pos (by decide), b1, zbd_some, rd_88 s2 (7 * p + q) (by rw [pk_mul, nI_add]) (by omega), Option.bind_some, b3 p q hp hq hpq]
    · rw [(b5.1 93 (by decide)).1, zs_i_n _ _ _ _ _ (by decide)]
theorem q_person (hN : JNx s n G M H D c0 c1) (hK : JK s n G M H c0 c1 A B) (a b : Int32) : QR (f_X7_person a b) (f_X8_person a b) s n G M H c0 c1 A B := by
  have hn := hN.1.1
  rcases per_cases hN a with ⟨h1, h2⟩ | ⟨p, hp, rfl⟩
  · refine QR.no hK (-2) ?_ ?_
    · rw [f_X7_person, h1, zbd_some, if_neg (fun z => z rfl)]
    · rw [f_X8_person, zb_eq, h2 _ hN.th, zbd_some, if_neg (fun z => z rfl)]
  · obtain ⟨s2, b1, b2, b3, b4, b5⟩ := lays8 hN.th.m
    have e77 : s2.1 77 = s.1 77 := by rw [(b5.1 77 (by decide)).1, zs_i_n _ _ _ _ _ (by decide)]
    have e93 : s2.1 93 0 = s.1 93 0 := by rw [(b5.1 93 (by decide)).1, zs_i_n _ _ _ _ _ (by decide)]
    have k2 : zk_m MC s s2 := zk_m.th.tr (b5.mono (by decide))
    obtain ⟨⟨u1, u2, u3⟩, ⟨v1, v2, v3⟩, ⟨w1, w2, w3⟩, ⟨x1, x2, x3⟩, y1⟩ := hN.2.1 p hp
    have fin : ∀ r : Int32, f_X7_person (nI p) b s = some (r, s) → f_X8_person (nI p) b s = some (r, s2) → QR (f_X7_person (nI p) b) (f_X8_person (nI p) b) s n G M H c0 c1 A B := fun r z1 z2 => ⟨r, s, s2, z1, z2, hK, zk_k.rf, k2, e93⟩
    have e7 := has_in hN hp
    have e8 := per_in hN.th hp
    by_cases d_0 : b = 0
    · subst d_0
      refine fin (nI (G p)) ?_ ?_
      · rw [f_X7_person, e7, zbd_some, if_pos (by decide), if_pos rfl, rd_4 s p rfl (by omega), Option.bind_some, u2]
      · rw [f_X8_person, zb_eq, e8, zbd_some, if_pos (by decide), b1, zbd_some, if_pos rfl, rd_77 s2 (29 + p) (nI_add _ _) (by omega), Option.bind_some, e77, u1]
    by_cases d_1 : b = 1
    · subst d_1
      refine fin (nI (zpc 9 (G p))) ?_ ?_
      · rw [f_X7_person, e7, zbd_some, if_pos (by decide), if_neg d_0, if_pos rfl, rd_4 s p rfl (by omega), Option.bind_some, u2, bc_ok s u3, zbd_some]
      · rw [f_X8_person, zb_eq, e8, zbd_some, if_pos (by decide), b1, zbd_some, if_neg d_0, if_pos rfl, rd_77 s2 (29 + p) (nI_add _ _) (by omega), Option.bind_some, e77, u1, bits_512 u3, zbd_some]
    by_cases d_2 : b = nI 2
    · subst d_2
      refine fin (nI (M p)) ?_ ?_
      · rw [f_X7_person, e7, zbd_some, if_pos (by decide), if_neg d_0, if_neg d_1, if_pos rfl, rd_5 s p rfl (by omega), Option.bind_some, v2]
      · rw [f_X8_person, zb_eq, e8, zbd_some, if_pos (by decide), b1, zbd_some, if_neg d_0, if_neg d_1, if_pos rfl, rd_77 s2 (36 + p) (nI_add _ _) (by omega), Option.bind_some, e77, v1]
    by_cases d_3 : b = nI 3
    · subst d_3
      refine fin (nI (H p)) ?_ ?_
      · rw [f_X7_person, e7, zbd_some, if_pos (by decide), if_neg d_0, if_neg d_1, if_neg d_2, if_pos rfl, rd_6 s p rfl (by omega), Option.bind_some, w2]
      · rw [f_X8_person, zb_eq, e8, zbd_some, if_pos (by decide), b1, zbd_some, if_neg d_0, if_neg d_1, if_neg d_2, if_pos rfl, rd_77 s2 (8 + p) (nI_add _ _) (by omega), Option.bind_some, e77, w1]
    by_cases d_4 : b = nI 4
    · subst d_4
      refine fin (nI (D p)) ?_ ?_
      · rw [f_X7_person, e7, zbd_some, if_pos (by decide), if_neg d_0, if_neg d_1, if_neg d_2, if_neg d_3, if_pos rfl, rd_7 s p rfl (by omega), Option.bind_some, x2]
      · rw [f_X8_person, zb_eq, e8, zbd_some, if_pos (by decide), b1, zbd_some, if_neg d_0, if_neg d_1, if_neg d_2, if_neg d_3, if_pos rfl, rd_77 s2 (15 + p) (nI_add _ _) (by omega), Option.bind_some, e77, x1]
    by_cases d_5 : b = nI 5
    · subst d_5
      refine fin (s.1 77 (22 + p)) ?_ ?_
      · rw [f_X7_person, e7, zbd_some, if_pos (by decide), if_neg d_0, if_neg d_1, if_neg d_2, if_neg d_3, if_neg d_4, if_pos rfl, rd_8 s p rfl (by omega), Option.bind_some, y1]
      · rw [f_X8_person, zb_eq, e8, zbd_some, if_pos (by decide), b1, zbd_some, if_neg d_0, if_neg d_1, if_neg d_2, if_neg d_3, if_neg d_4, if_pos rfl, rd_77 s2 (22 + p) (nI_add _ _) (by omega), Option.bind_some, e77]
    by_cases d_6 : b = nI 6
    · subst d_6
      obtain ⟨s1, a1, a2, a3, a4, a5⟩ := learnK hK
      have hN1 := hN.keep a4 (by decide)
      obtain ⟨s3, d1, d2, d3, d4, d5⟩ := lays8 hN1.th.m
      have k5 : zk_m MC s1 s3 := zk_m.th.tr (d5.mono (by decide))
      refine ⟨nI (zbs (zmt G M c0 c1 p) n), s1, s3, ?_, ?_, a2, a4.mono (by decide), k5, by rw [(d5.1 93 (by decide)).1, zs_i_n _ _ _ _ _ (by decide)]⟩
      · rw [f_X7_person, e7, zbd_some, if_pos (by decide), if_neg d_0, if_neg d_1, if_neg d_2, if_neg d_3, if_neg d_4, if_neg d_5, if_pos rfl, f_X0_matchesOf, a1, zbd_some, rd_61 s1 p rfl (by omega), Option.bind_some, zbd_some, (a3 p hp).1]
      · rw [f_X8_person, zb_eq, per_in hN1.th hp, zbd_some, if_pos (by decide), d1, zbd_some, if_neg d_0, if_neg d_1, if_neg d_2, if_neg d_3, if_neg d_4, if_neg d_5, if_pos rfl, ms8 (hN1.th.m.keep d5.1 (by decide)) d4 hp, zbd_some]
    refine fin (-2) ?_ ?_
    · rw [f_X7_person, e7, zbd_some, if_pos (by decide), if_neg d_0, if_neg d_1, if_neg d_2, if_neg d_3, if_neg d_4, if_neg d_5, if_neg d_6]
    · rw [f_X8_person, zb_eq, e8, zbd_some, if_pos (by decide), b1, zbd_some, if_neg d_0, if_neg d_1, if_neg d_2, if_neg d_3, if_neg d_4, if_neg d_5, if_neg d_6]
/-- both know who matches whom, and the pairing as it is -/
theorem now8 {t : zS} (hN : JNx t n G M H D c0 c1) : ∃ t2, f_X8_laysNow t = some ((), t2) ∧ ZM t2 n G M c0 c1 ∧ ZL8 t2 n G M c1 ∧ ZT8 t2 n G M c0 c1 ∧ (∀ p, p < 7 → t2.1 91 p = t.1 77 (22 + p)) ∧ zk_m [81, 82, 83, 84, 85, 86, 87, 88, 89, 91] t t2 := by
  obtain ⟨s1, a1, a2, a3, a4, a5⟩ := lays8 hN.m
  rw [f_X8_laysNow, a1, zbd_some]
  obtain ⟨q', u, g1, g2, g3⟩ := zlp (fun q i u => f_X8_laysNow_6 q (nI i) u) 7 (fun i u => zk_m [91] s1 u ∧ ∀ p, p < i → u.1 91 p = t.1 77 (22 + p))
    (fun q i u hi h => by
      show ∃ a', f_X8_laysNow_6 (q + 1) (nI i) u = f_X8_laysNow_6 q (nI (i + 1)) a' ∧ _
      rw [f_X8_laysNow_6, if_neg (nI_ge hi (by omega)), rd_77 u (22 + i) (nI_add _ _) (by omega), Option.bind_some, wr_91 u i rfl hi, Option.bind_some, zb_eq, nI_1, (h.1.1 77 (by decide)).1, (a5.1 77 (by decide)).1]
      refine ⟨_, rfl, h.1.i (by simp) (by decide), fun p hp => ?_⟩
      by_cases e : p = i
      · subst e; rw [zs_i_v]
      · rw [zs_i_o _ _ _ _ _ e]; exact h.2 p (by omega)) 7 0 zFU s1 (by decide) (by decide) ⟨zk_m.rf, fun p hp => by omega⟩
  have g1' : f_X8_laysNow_6 zFU 0 s1 = f_X8_laysNow_6 (q' + 1) (nI 7) u := g1
  rw [g1', f_X8_laysNow_6, if_pos (nI_le (Nat.le_refl _) (by omega))]
  have ku : zk_m [81, 82, 83, 84, 85, 86, 87, 88, 89, 91] t u := (a5.mono (by simp)).tr (g2.mono (by simp))
  exact ⟨u, rfl, hN.m.keep ku.1 (by decide), fun a b ha hb hne => by rw [(g2.1 88 (by decide)).1]; exact a3 a b ha hb hne, fun a b ha hb => by rw [(g2.1 89 (by decide)).1]; exact a4 a b ha hb, g3, ku⟩
end QUERY
