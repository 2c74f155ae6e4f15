section OPS3
variable {n u : Nat} {G M H D A B A2 B2 : Nat → Nat} {c0 c1 : List Nat} {s a b : zS} {st : (Nat → Nat) × (Nat → Nat) × (Nat → Option Nat)}
theorem OR.go2 {f g : zS → Option (Int32 × zS)} {r : Int32} (hN : JNx s n G M H D c0 c1) (hU : JU2 s n u) (hf : f s = some (r, a)) (hg : g a = some (r, b)) (ha : CSt a n st H c0 c1 A2 B2) (hk : zk_k (75 :: DC) s a) (hb : RSt b n st c0 c1) (hz : RDz a b) (h7 : ∀ j, 43 ≤ j → j < 254 → b.1 77 j = a.1 77 j) (hG : AG A B A2 B2 100) : OR f g s n H D c0 c1 A B := by
  obtain ⟨h1, h2, h3⟩ := fin hN ha (hk.mono (by decide)) hb hz
  refine ⟨r, a, b, st.1, st.2.1, u, A2, B2, hf, hg, h1, h2, hU.same hN.1.1 ?_ ?_ (fun j h1 h2 => ?_), hG, h3⟩
  · rw [(hz.1.1 73 (by decide)).1, (hk 73 (by decide)).1]
  · rw [(hz.1.1 74 (by decide)).1, (hk 74 (by decide)).1]
  · rw [h7 j h1 h2, (hk 77 (by decide)).1]
theorem undo44 {r : Nat} (hr : r < 10) (h43 : s.1 77 43 = nI r) : ∃ s', f_X8_undo_44 zFU 0 s = some (nI r, s') ∧ zk_k [77] s s' ∧ (∀ k, k < 21 → s'.1 77 (22 + k) = s.1 77 (44 + 21 * r + k)) ∧ ∀ j, (j < 22 ∨ 43 ≤ j) → s'.1 77 j = s.1 77 j := by
  obtain ⟨q', t, g1, g2, g3, g4⟩ := zlp (fun q i t => f_X8_undo_44 q (nI i) t) 21 (fun i t => zk_k [77] s t ∧ (∀ k, k < i → t.1 77 (22 + k) = s.1 77 (44 + 21 * r + k)) ∧ ∀ j, (j < 22 ∨ 43 ≤ j) → t.1 77 j = s.1 77 j)
    (fun q i t hi h => by
      show ∃ a', f_X8_undo_44 (q + 1) (nI i) t = f_X8_undo_44 q (nI (i + 1)) a' ∧ _
      rw [f_X8_undo_44, if_neg (nI_ge hi (by omega)), rd_77 t 43 rfl (by decide), Option.bind_some, h.2.2 43 (by omega), h43, rd_77 t (44 + 21 * r + i) (by rw [pk_mul, nI_add, nI_add]) (by omega), Option.bind_some, h.2.2 _ (by omega), wr_77 t (22 + i) (nI_add _ _) (by omega), Option.bind_some, zb_eq, nI_1]
      refine ⟨_, rfl, h.1.i (by simp), fun k hk => ?_, fun j hj => by rw [zs_i_o _ _ _ _ _ (by omega)]; exact h.2.2 j hj⟩
      by_cases e : k = i
      · subst e; rw [zs_i_v]
      · rw [zs_i_o _ _ _ _ _ (by omega)]; exact h.2.1 k (by omega)) 21 0 zFU s (by decide) (by decide) ⟨zk_k.rf, fun k hk => by omega, fun _ _ => rfl⟩
  have g1' : f_X8_undo_44 zFU 0 s = f_X8_undo_44 (q' + 1) (nI 21) t := g1
  rw [g1', f_X8_undo_44, if_pos (nI_le (Nat.le_refl _) (by decide)), rd_77 t 43 rfl (by decide), Option.bind_some, g4 43 (by omega), h43]
  exact ⟨t, rfl, g2, g3, g4⟩
theorem q_undo (hN : JNx s n G M H D c0 c1) (hK : JK s n G M H c0 c1 A B) (hU : JU2 s n u) (hab : AB A B 100) (x : Int32) : OR (f_X7_undo x) (f_X8_undo x) s n H D c0 c1 A B := by
  obtain ⟨W, hW, hV⟩ := hN.W
  have hn := hN.1.1
  have hu := hU.1
  have hR : RSt s n (G, M, W) c0 c1 := ⟨hN.m, hV⟩
  have no : f_X7_undo x s = some (-3, s) → f_X8_undo x s = some (-3, zs_i s 76 0 0) → OR (f_X7_undo x) (f_X8_undo x) s n H D c0 c1 A B := fun h1 h2 => OR.go (r := -3) (a := s) (b := zs_i s 76 0 0) (st := (G, M, W)) hN hU h1 h2 ⟨hK, hW⟩ zk_k.rf (hR.keep rfl) RDy.th AG.rf
  have w0 : ¬ (1 ≤ x.toInt ∧ x.toInt ≤ 10) → f_X8_undo x s = some (-3, zs_i s 76 0 0) := fun h => by
    rw [f_X8_undo, zb_eq, wi_ok, if_neg (fun z => h ⟨(l_ge (n := 1) rfl).mp z.1, (l_le (n := 10) rfl).mp z.2⟩), zbd_some, if_pos rfl]; rfl
  rcases i_cases x 11 (by decide) with ⟨h, -⟩ | ⟨h0, h⟩ | ⟨v, hv, rfl⟩
  · have h2 : x.toInt < 0 := Int32.lt_iff_toInt_lt.mp h
    refine no ?_ (w0 (by omega))
    rw [f_X7_undo, if_pos (Int32.lt_iff_toInt_lt.mpr (by show x.toInt < 1; omega))]; rfl
  · have h2 : (11 : Int) ≤ x.toInt := Int32.le_iff_toInt_le.mp h
    refine no ?_ (w0 (by omega))
    rw [f_X7_undo, if_neg (fun z => by have h3 : x.toInt < 1 := Int32.lt_iff_toInt_lt.mp z; omega), hU.2.2.1, if_neg (fun z => by have h3 := Int32.le_iff_toInt_le.mp z; rw [nI_toInt (by omega)] at h3; omega)]; rfl
  · have hx : (nI v).toInt = v := nI_toInt (by omega)
    by_cases hv0 : v = 0
    · refine no ?_ (w0 (by omega))
      rw [f_X7_undo, if_pos (Int32.lt_iff_toInt_lt.mpr (by show (nI v).toInt < 1; omega))]; rfl
    have hl : ¬ nI v < (1 : Int32) := fun z => by have h3 : (nI v).toInt < 1 := Int32.lt_iff_toInt_lt.mp z; omega
    have hw : ∀ t, f_X8_within (nI v).toInt64 1 10 t = some (1, t) := fun t => by
      rw [wi_ok, if_pos ⟨(l_ge (n := 1) rfl).mpr (by omega), (l_le (n := 10) rfl).mpr (by omega)⟩]
    by_cases hvu : v ≤ u
    · -- the row
      obtain ⟨r1, r2⟩ := hU.2.2.2 (u - v) (by omega)
      obtain ⟨W0, w1, w2⟩ := zWV.w r2 hn
      have es : nI u - nI v = nI (u - v) := pk_sub hvu
      have e7 : f_X7_undo (nI v) s = zbd (f_X2_giveBack (zs_c (zs_i s 73 3 (nI (u - v))) 74 ((u - v) * 21) 75 0 21)) fun _ s3 => some (s3.1 73 3, s3) := by
        have e3 : (zs_i s 73 3 (nI (u - v))).1 73 3 = nI (u - v) := zs_i_v _ _ _ _
        rw [f_X7_undo, if_neg hl, hU.2.2.1, if_pos (nI_le hvu (by omega)), f_X2_goBack, if_neg hl, hU.2.2.1, if_pos (nI_le hvu (by omega)), zb_eq, es, e3, wc_ok (y := (0 : Int32)) (sp := (u - v) * 21) (dp := 0) (m := 21) zd_74 zd_75 zn_74 zn_75 (pk_mul _ _) rfl rfl (by omega) (by decide) (by omega) (by decide) (by decide), Option.bind_some]
        cases f_X2_giveBack (zs_c (zs_i s 73 3 (nI (u - v))) 74 ((u - v) * 21) 75 0 21) <;> rfl
      have k2 : zk_k [73, 75] s (zs_c (zs_i s 73 3 (nI (u - v))) 74 ((u - v) * 21) 75 0 21) := (zk_k.rf.i (by simp)).tr (zsc_k (by simp))
      have e75 : ∀ j, j < 21 → (zs_c (zs_i s 73 3 (nI (u - v))) 74 ((u - v) * 21) 75 0 21).1 75 j = s.1 74 (21 * (u - v) + j) := fun j hj => by
        rw [zsc_in (by omega) (by omega), zs_i_n _ _ _ _ _ (by decide)]
        exact congrArg (s.1 74) (by omega)
      have e73 : (zs_c (zs_i s 73 3 (nI (u - v))) 74 ((u - v) * 21) 75 0 21).1 73 3 = nI (u - v) := by rw [((zsc_k (S := [75]) (by simp)) 73 (by decide)).1, zs_i_v]
      generalize zs_c (zs_i s 73 3 (nI (u - v))) 74 ((u - v) * 21) 75 0 21 = s2 at e7 k2 e75 e73
      have hK2 := hK.w k2 (by decide)
      obtain ⟨s3, G2, M2, A2, B2, a1, a2, a3, a4, a5⟩ := giveback7 (G0 := fun p => (s.1 77 (44 + 21 * (u - v) + (7 + p))).toNatClampNeg) (M0 := fun p => (s.1 77 (44 + 21 * (u - v) + (14 + p))).toNatClampNeg) hK2 (fun p hp => by
        obtain ⟨y1, y2, y3, ⟨g, y4, y5⟩, m, y6, y7⟩ := r1 p hp
        rw [e75 _ (by omega), e75 _ (by omega), e75 _ (by omega)]
        simp only at y1 y2 y3 y5 y7
        rw [y1, y2, y3, y5, y7, nI_clamp (by omega), nI_clamp (by omega)]
        exact ⟨w1 p hp, ⟨rfl, y4⟩, rfl, y6⟩) w2 (hab.less (by omega))
      have ha : zk_k C7 s s3 := (k2.mono (by decide)).tr (a3.mono (by decide))
      have e77 : s3.1 77 = s.1 77 := (ha 77 (by decide)).1
      have h73 : s3.1 73 3 = nI (u - v) := by rw [(a3 73 (by decide)).1, e73]
      obtain ⟨b, b1, b2, b3, b4⟩ := undo44 (s := zs_i (zs_i s3 76 0 0) 77 43 (nI (u - v))) (r := u - v) (by omega) (zs_i_v _ _ _ _)
      have f77 : ∀ j, (j < 22 ∨ 43 < j) → b.1 77 j = s.1 77 j := fun j hj => by rw [b4 j (by omega), zs_i_o _ _ _ _ _ (by omega), zs_i_n _ _ _ _ _ (by decide), e77]
      have v77 : ∀ k, k < 21 → b.1 77 (22 + k) = s.1 77 (44 + 21 * (u - v) + k) := fun k hk => by rw [b3 k hk, zs_i_o _ _ _ _ _ (by omega), zs_i_n _ _ _ _ _ (by decide), e77]
      have hz : RDz s3 b := RDz.th.tr (RDz.k7 ((zk_k.rf.i (by simp)).tr b2) (fun j hj => by rw [b4 j (by omega), zs_i_o _ _ _ _ _ (by omega)]))
      have hb : RSt b n (G2, M2, W0) c0 c1 := by
        refine ⟨hR.1.set (fun j hj => f77 j (by omega)) (fun p hp => ?_), ⟨fun p hp => ?_, w2⟩⟩
        · obtain ⟨-, -, -, ⟨g, y4, y5⟩, m, y6, y7⟩ := r1 p hp
          obtain ⟨z1, z2⟩ := a5 p hp
          simp only at y5 y7 z1 z2
          rw [y5, nI_clamp (by omega)] at z1
          rw [y7, nI_clamp (by omega)] at z2
          show (b.1 77 (29 + p) = nI (G2 p) ∧ G2 p < 512) ∧ b.1 77 (36 + p) = nI (M2 p) ∧ M2 p < 10
          rw [z1, z2, show 29 + p = 22 + (7 + p) by omega, show 36 + p = 22 + (14 + p) by omega, v77 _ (by omega), v77 _ (by omega), y5, y7]
          exact ⟨⟨rfl, y4⟩, rfl, y6⟩
        · rw [v77 p (by omega)]; exact w1 p hp
      obtain ⟨h1, h2, h3⟩ := fin hN a2 ha hb hz
      have e74 : b.1 74 = s.1 74 := by rw [(hz.1.1 74 (by decide)).1, (a3 74 (by decide)).1, (k2 74 (by decide)).1]
      refine ⟨nI (u - v), s3, b, G2, M2, u - v, A2, B2, ?_, ?_, h1, h2, ⟨by omega, ?_, ?_, fun r hr => ?_⟩, a4.up (by decide), h3⟩
      · rw [e7, a1, zbd_some, h73]
      · have e43 : (zs_i s3 76 0 0).1 77 43 = nI u := by rw [zs_i_n _ _ _ _ _ (by decide), e77]; exact hU.2.1
        rw [f_X8_undo, zb_eq, hw, zbd_some, if_neg (by decide), rd_77 _ 43 rfl (by decide), Option.bind_some, e43, if_pos (nI_le hvu (by omega)), Option.bind_some, es, wr_77 _ 43 rfl (by decide), Option.bind_some, b1]
      · rw [b4 43 (by omega), zs_i_v]
      · rw [(hz.1.1 73 (by decide)).1, h73]
      · exact RR.cg hn (fun j hj => by rw [e74]) (fun j hj => f77 _ (by omega)) (hU.2.2.2 r (by omega))
    · refine no ?_ ?_
      · rw [f_X7_undo, if_neg hl, hU.2.2.1, if_neg (nI_ge (by omega) (by omega))]; rfl
      · have e43 : (zs_i s 76 0 0).1 77 43 = nI u := hU.2.1
        rw [f_X8_undo, zb_eq, hw, zbd_some, if_neg (by decide), rd_77 _ 43 rfl (by decide), Option.bind_some, e43, if_neg (nI_ge (by omega) (by omega))]; rfl
/-- a tray of both, whatever else has changed -/
theorem tray_all (hY : JY s) (x : Int32) : (∀ v, f_X6_isOne x v = some (0, v) ∧ f_X8_noTray x v = some (-2, v)) ∨ ∃ t, t < 4 ∧ x = nI t ∧ (∀ v, f_X6_isOne x v = some (1, v)) ∧ ((∀ v : zS, (v.1 69 = s.1 69 → f_X6_isMissing x v = some (1, v)) ∧ (v.1 97 = s.1 97 → f_X8_noTray x v = some (-6, v))) ∨ ∃ z, z ≤ 40 ∧ s.1 98 t = nI z ∧ (∀ i, i < z → s.2 71 (40 * t + i) = s.2 99 (40 * t + i)) ∧ ∀ v : zS, (v.1 69 = s.1 69 → f_X6_isMissing x v = some (0, v) ∧ (v.1 70 = s.1 70 → f_X6_sizeOf x v = some (nI z, v) ∧ (v.2 71 = s.2 71 → ∀ i, i < z → f_X6_numberAt x (nI i) v = some (s.2 71 (40 * t + i), v)))) ∧ (v.1 97 = s.1 97 → f_X8_noTray x v = some (0, v))) := by
  rcases i_cases x 4 (by decide) with ⟨h, -⟩ | ⟨-, h⟩ | ⟨t, ht, rfl⟩
  · exact Or.inl fun v => ⟨one_neg v h, notray_neg _ h⟩
  · exact Or.inl fun v => ⟨one_big v h, notray_big _ h⟩
  · refine Or.inr ⟨t, ht, rfl, fun v => one_in v ht, ?_⟩
    obtain ⟨h1, h2⟩ := hY t ht
    rcases h2 with h2 | ⟨⟨so, hso, h2⟩, z, hz, h3, h4, h5⟩
    · exact Or.inl fun v => ⟨fun e => miss_m v ht (by rw [e]; exact h2), fun e => notray_m _ ht (by rw [e, ← h1]; exact h2)⟩
    · refine Or.inr ⟨z, hz, h4, h5, fun v => ⟨fun e => ⟨miss_h v ht hso (by rw [e]; exact h2), fun e2 => ?_⟩, fun e => notray_in _ ht hso (by rw [e, ← h1]; exact h2)⟩⟩
      have hs := size_h v ht hso (by rw [e]; exact h2) (by rw [e2]; exact h3)
      refine ⟨hs, fun e3 i hi => ?_⟩
      unfold f_X6_numberAt f_X6_numberAt_28
      rw [if_neg (nI_pos (by omega)), hs, zbd_some, if_neg (nI_ge hi (by omega)), rd_71 v (40 * t + i) (by rw [pk_mul, nI_add, Nat.mul_comm]) (by omega), Option.bind_some, e3]
theorem ztl_le {X : Nat → Int64} : ∀ (k i : Nat) (st : (Nat → Nat) × (Nat → Nat) × (Nat → Option Nat)), (ztl n c0 c1 X k i st).1 ≤ i + k := by
  intro k
  induction k with
  | zero => intro i st; exact Nat.le_refl _
  | succ k ih =>
    intro i st
    unfold ztl
    split
    · have := ih (i + 1) (zd1 n c0 c1 (X i) st).2; omega
    · simp only []; omega
/-- both do the deeds of a tray -/
theorem tray_do (hS : CSt a n st H c0 c1 A B) (hab : AB A B 40) {t z : Nat} {X : Nat → Int64} (ht : t < 4) (hz : z ≤ 40) (h1 : f_X6_sizeOf (nI t) a = some (nI z, a)) (h2 : ∀ (v : zS), zk_k DC a v → ∀ j, j < z → f_X6_numberAt (nI t) (nI j) v = some (X j, v)) : ∃ s3 A2 B2, f_X1_doTray (nI t) a = some (nI (ztl n c0 c1 X z 0 st).1, s3) ∧ CSt s3 n (ztl n c0 c1 X z 0 st).2.2 H c0 c1 A2 B2 ∧ s3.1 72 4 = nI (ztl n c0 c1 X z 0 st).2.1 ∧ zk_k DC a s3 ∧ AG A B A2 B2 40 := by
  have k0 : zk_k DC a (zs_i a 72 4 0) := zk_k.rf.i (by decide)
  obtain ⟨s3, A2, B2, g1, g2, g3, g4, g5⟩ := tray7 (n := n) (H := H) (c0 := c0) (c1 := c1) (t := t) (z := z) (X := X) z 0 zFU st A B (zs_i a 72 4 0) (by omega) (show z < 5000 by omega) hz hS.x (hab.less hz) (fun j hj => h2 _ k0 j hj) (fun v j hv hj => h2 v (k0.tr hv) j hj) (zs_i_v _ _ _ _)
  refine ⟨s3, A2, B2, ?_, g2, g3, k0.tr g4, g5.up hz⟩
  rw [f_X1_doTray, h1, zbd_some, zb_eq]
  exact g1
theorem tell_do (hR : RSt a n st c0 c1) {t z : Nat} {X : Nat → Int64} (ht : t < 4) (hz : z ≤ 40) (h98 : a.1 98 t = nI z) (h99 : ∀ j, j < z → a.2 99 (40 * t + j) = X j) : ∃ b, f_X8_tells (nI t) a = some (nI (ztl n c0 c1 X z 0 st).1, b) ∧ RSt b n (ztl n c0 c1 X z 0 st).2.2 c0 c1 ∧ b.1 76 28 = nI (ztl n c0 c1 X z 0 st).2.1 ∧ RDy a b := by
  obtain ⟨b, g1, g2, g3, g4⟩ := tells8 (n := n) (c0 := c0) (c1 := c1) (t := t) (z := z) (X := X) ht z 0 zFU st (zs_i a 76 28 0) (by omega) (show z < 5000 by omega) hz (hR.keep rfl) h98 h99 (zs_i_v _ _ _ _)
  refine ⟨b, ?_, g2, g3, RDy.tr ⟨⟨zk_k.rf.i (by simp), zs_i_o _ _ _ _ _ (by decide), zs_i_o _ _ _ _ _ (by decide), zs_i_o _ _ _ _ _ (by decide)⟩, fun _ _ => rfl, rfl⟩ g4.y⟩
  rw [f_X8_tells, zb_eq]
  exact g1
theorem q_perform (hN : JNx s n G M H D c0 c1) (hK : JK s n G M H c0 c1 A B) (hU : JU2 s n u) (hY : JY s) (hab : AB A B 100) (x : Int32) : OR (f_X7_perform x) (f_X8_perform x) s n H D c0 c1 A B := by
  obtain ⟨W, hW, hV⟩ := hN.W
  have hn := hN.1.1
  have hR : RSt s n (G, M, W) c0 c1 := ⟨hN.m, hV⟩
  have no : ∀ r, f_X7_perform x s = some (r, s) → f_X8_perform x s = some (r, zs_i s 76 0 0) → OR (f_X7_perform x) (f_X8_perform x) s n H D c0 c1 A B := fun r h1 h2 => OR.go (r := r) (a := s) (b := zs_i s 76 0 0) (st := (G, M, W)) hN hU h1 h2 ⟨hK, hW⟩ zk_k.rf (hR.keep rfl) RDy.th AG.rf
  rcases tray_all hY x with h | ⟨t, ht, rfl, h1, h2 | ⟨z, hz, h98, hX, h2⟩⟩
  · refine no (-2) ?_ ?_
    · rw [f_X7_perform, (h s).1, zbd_some, if_neg (fun z => z rfl)]
    · rw [f_X8_perform, zb_eq, (h _).2, zbd_some, if_neg (by decide)]
  · refine no (-6) ?_ ?_
    · rw [f_X7_perform, h1, zbd_some, if_pos (by decide), (h2 s).1 rfl, zbd_some, if_neg (by decide)]
    · rw [f_X8_perform, zb_eq, (h2 (zs_i s 76 0 0)).2 rfl, zbd_some, if_neg (by decide)]
  · obtain ⟨s1, p1, p2, p3⟩ := hold_7 s
    have hS1 : CSt s1 n (G, M, W) H c0 c1 A B := ⟨hK.w p2 (by decide), hW.keep p2 (by decide)⟩
    have c69 : s1.1 69 = s.1 69 := (p2 69 (by decide)).1
    have c70 : s1.1 70 = s.1 70 := (p2 70 (by decide)).1
    obtain ⟨s3, A2, B2, a1, a2, a3, a4, a5⟩ := tray_do (X := fun j => s.2 71 (40 * t + j)) hS1 (hab.less (by decide)) ht hz (((h2 s1).1 c69).2 c70).1 (fun v hv j hj => (((h2 v).1 (by rw [(hv 69 (by decide)).1, c69])).2 (by rw [(hv 70 (by decide)).1, c70])).2 (by rw [(hv 71 (by decide)).2, (p2 71 (by decide)).2]) j hj)
    have hle := ztl_le (n := n) (c0 := c0) (c1 := c1) (X := fun j => s.2 71 (40 * t + j)) z 0 (G, M, W)
    have e7 : f_X7_perform (nI t) s = zbd (f_X7_keepIfAny (nI (ztl n c0 c1 (fun j => s.2 71 (40 * t + j)) z 0 (G, M, W)).1) s3) fun r8 s9 => some (r8, s9) := by
      rw [f_X7_perform, h1, zbd_some, if_pos (by decide), ((h2 s).1 rfl).1, zbd_some, if_pos rfl, p1, zbd_some, a1, zbd_some]
    have go8 : ∀ v, zk_k C7 s v → ∃ t0 t1 t2, RDy v t0 ∧ RSt t0 n (G, M, W) c0 c1 ∧ f_X8_keeps t0 = some ((), t1) ∧ zk_k [90] t0 t1 ∧ RDy t1 t2 ∧ RSt t2 n (ztl n c0 c1 (fun j => s.2 71 (40 * t + j)) z 0 (G, M, W)).2.2 c0 c1 ∧ f_X8_perform (nI t) v = (if nI (ztl n c0 c1 (fun j => s.2 71 (40 * t + j)) z 0 (G, M, W)).1 ≤ 0 then f_X8_perform_35 (nI (ztl n c0 c1 (fun j => s.2 71 (40 * t + j)) z 0 (G, M, W)).1) t2 else zbd (f_X8_notes t2) fun _ s7 => f_X8_perform_35 (nI (ztl n c0 c1 (fun j => s.2 71 (40 * t + j)) z 0 (G, M, W)).1) s7) := fun v hv => by
      have hRv : RSt (zs_i v 76 0 0) n (G, M, W) c0 c1 := hR.keep (hv 77 (by decide)).1
      obtain ⟨t1, g1, g2, g3⟩ := keeps_8 (zs_i v 76 0 0)
      have r1 : RSt t1 n (G, M, W) c0 c1 := RSt.keep hRv (g2 77 (by decide)).1
      obtain ⟨t2, i1, i2, i3, i4⟩ := tell_do (X := fun j => s.2 71 (40 * t + j)) r1 ht hz (by rw [(g2 98 (by decide)).1, zs_i_n _ _ _ _ _ (by decide), (hv 98 (by decide)).1]; exact h98) (fun j hj => by
        have e : (zs_i v 76 0 0).2 = v.2 := rfl
        rw [(g2 99 (by decide)).2, e, (hv 99 (by decide)).2]; exact (hX j hj).symm)
      refine ⟨_, t1, t2, RDy.th, hRv, g1, g2, i4, i2, ?_⟩
      rw [f_X8_perform, zb_eq, (h2 _).2 (by rw [zs_i_n _ _ _ _ _ (by decide), (hv 97 (by decide)).1]), zbd_some, if_pos rfl, g1, zbd_some, i1, zbd_some]
    generalize hr : (ztl n c0 c1 (fun j => s.2 71 (40 * t + j)) z 0 (G, M, W)).1 = r at *
    by_cases e : r = 0
    · have k3 : zk_k (75 :: DC) s s3 := (p2.mono (by decide)).tr (a4.mono (by decide))
      obtain ⟨t0, t1, t2, c1', c2, c3, c4, c5, c6, c7⟩ := go8 s3 (k3.mono (by decide))
      refine OR.go2 (r := nI r) (a := s3) (b := t2) hN hU ?_ ?_ a2 k3 c6 ((c1'.z.tr (RDz.k9 c4)).tr c5.z) (fun j hj _ => by rw [c5.2.1 j (by omega), (c4 77 (by decide)).1, c1'.2.1 j (by omega)]) (a5.up (by decide))
      · rw [e7, f_X7_keepIfAny, if_pos (by rw [e]; decide)]; rfl
      · rw [c7, if_pos (by rw [e]; decide)]; rfl
    · have hpos : ¬ nI r ≤ (0 : Int32) := nI_nle (by omega) (by omega)
      refine OR.did (r := nI r) hN hW hU p2 p3 a4 a2 (a5.up (by decide)) (fun a f1 f2 => ?_) (fun a f1 => ?_)
      · rw [e7, f_X7_keepIfAny, if_neg hpos, f1, zbd_some]; rfl
      · obtain ⟨t0, t1, t2, c1', c2, c3, c4, c5, c6, c7⟩ := go8 a f1
        refine ⟨t0, t1, t2, c1', c2, c3, c5, c6, fun b j1 _ _ => ?_⟩
        rw [c7, if_neg hpos, j1, zbd_some]; rfl
end OPS3
