section LISTS
variable {n u : Nat} {G M H D A B : Nat → Nat} {c0 c1 : List Nat} {s a b : zS}
def LR (f g : zS → Option (Int32 × zS)) (s : zS) (n : Nat) (G M H : Nat → Nat) (c0 c1 : List Nat) (A B : Nat → Nat) : Prop := ∃ (r : Int32) (s1 s2 : zS), f s = some (r, s1) ∧ g s1 = some (r, s2) ∧ JK s1 n G M H c0 c1 A B ∧ zk_k (71 :: CC) s s1 ∧ zk_m (99 :: MC) s1 s2 ∧ s2.1 93 0 = s1.1 93 0 ∧ JY s2
theorem cut_o : ∀ so, so < 4 → zcut so (oI none).toInt64 = (oI none).toInt64 ∧ ∀ q, q < 10 → zcut so (oI (some q)).toInt64 = (oI (some q)).toInt64 := by decide +kernel
theorem min_ok (a b : Nat) (ha : a < 2 ^ 31) (hb : b < 2 ^ 31) (s : zS) : f_J9_min_7cf53 (nI a) (nI b) s = some (nI (min a b), s) := by
  unfold f_J9_min_7cf53 f_J9_min_7cf53_10
  by_cases h : b < a
  · rw [if_pos (nI_lt h ha), Nat.min_eq_right (by omega)]
  · rw [if_neg (nI_nlt (by omega) hb), Nat.min_eq_left (by omega)]
theorem q_lists (hN : JNx s n G M H D c0 c1) (hK : JK s n G M H c0 c1 A B) (hY : JY s) (x y : Int32) : LR (f_X7_lists x y) (f_X8_lists x y) s n G M H c0 c1 A B := by
  have hn := hN.1.1
  have no : ∀ r, f_X7_lists x y s = some (r, s) → f_X8_lists x y s = some (r, zs_i s 76 0 0) → LR (f_X7_lists x y) (f_X8_lists x y) s n G M H c0 c1 A B := fun r h1 h2 => ⟨r, s, _, h1, h2, hK, zk_k.rf, zk_m.th, rfl, hY.keep (zk_k.rf.i (S := [76]) (by simp)) (by decide)⟩
  rcases tray_all hY x with h | ⟨t, ht, rfl, h1, h2 | ⟨z, hz, h98, hX, h2⟩⟩
  · refine no (-2) ?_ ?_
    · rw [f_X7_lists, (h s).1, zbd_some, if_neg (fun z => z rfl)]
    · rw [f_X8_lists, zb_eq, (h _).2, zbd_some, if_neg (by decide)]
  · refine no (-6) ?_ ?_
    · rw [f_X7_lists, h1, zbd_some, if_pos (by decide), (h2 s).1 rfl, zbd_some, if_neg (by decide)]
    · rw [f_X8_lists, zb_eq, (h2 (zs_i s 76 0 0)).2 rfl, zbd_some, if_neg (by decide)]
  obtain ⟨s1, s2, a1, b1, hN1, hK1, h7, h8, hl, k1, k2, e93, e77⟩ := pairs2 hN hK
  have hv := zprs_n (n := n) (G := G) (M := M) (c0 := c0) (c1 := c1)
  have hok := (zprs_ok (n := n) (G := G) (M := M) (c0 := c0) (c1 := c1) (S := 2 ^ n - 1) (wish := 232)).2
  have hld : ∀ v : zS, ZM v n G M c0 c1 → ∃ s', f_X8_laysHeld v = some ((), s') ∧ JH8 s' (zprs n G M c0 c1 (2 ^ n - 1) 232) ∧ zk_m [81, 82, 83, 84, 85, 86, 87, 88, 89, 91, 92] v s' := fun v hv => held8 hv
  generalize zprs n G M c0 c1 (2 ^ n - 1) 232 = L at h7 h8 hl hv hok hld
  rcases i_cases y L.length (by omega) with ⟨h, h'⟩ | ⟨h0, h⟩ | ⟨k, hk, rfl⟩
  · refine no (-3) ?_ ?_
    · rw [f_X7_lists, h1, zbd_some, if_pos (by decide), ((h2 s).1 rfl).1, zbd_some, if_pos rfl, if_neg h']
    · rw [f_X8_lists, zb_eq, (h2 (zs_i s 76 0 0)).2 rfl, zbd_some, if_pos rfl, if_neg h']
  · have hY1 : JY s1 := hY.keep k1 (by decide)
    refine ⟨-5, s1, s2, ?_, ?_, hK1, k1.mono (by decide), k2.mono (by decide), e93, hY1.keep k2.1 (by decide)⟩
    · rw [f_X7_lists, h1, zbd_some, if_pos (by decide), ((h2 s).1 rfl).1, zbd_some, if_pos rfl, if_pos (Int32.not_lt.mp h0), a1, zbd_some, h7.1, if_neg (i_nlt h)]
    · rw [f_X8_lists, zb_eq, (h2 (zs_i s1 76 0 0)).2 (by rw [zs_i_n _ _ _ _ _ (by decide), (k1 97 (by decide)).1]), zbd_some, if_pos rfl, if_pos (Int32.not_lt.mp h0), b1, zbd_some, h8.1, if_neg (i_nlt h)]
  -- the lists are laid
  have hw : min n z ≤ n := Nat.min_le_left _ _
  have hw2 : min n z ≤ z := Nat.min_le_right _ _
  have hY1 : JY s1 := hY.keep k1 (by decide)
  obtain ⟨y1, y2⟩ := hY1 t ht
  have c69 : s1.1 69 = s.1 69 := (k1 69 (by decide)).1
  have c70 : s1.1 70 = s.1 70 := (k1 70 (by decide)).1
  have c98 : s1.1 98 t = nI z := by rw [(k1 98 (by decide)).1, h98]
  have hso : ∃ so, so < 4 ∧ s1.1 69 t = nI so := by
    rcases y2 with y2 | ⟨y2, -⟩
    · have e1 := miss_m s1 ht y2
      rw [((h2 s1).1 c69).1] at e1
      exact absurd e1 (by simp)
    · exact y2
  obtain ⟨so, hso, e69⟩ := hso
  have oq : ∀ i, i < n → zcut so (oI (L.getD k zno i)).toInt64 = (oI (L.getD k zno i)).toInt64 := fun i hi => by
    cases hw : L.getD k zno i with
    | none => exact (cut_o so hso).1
    | some q => exact (cut_o so hso).2 q (by have := (hv k hk i q hw).2.1; omega)
  obtain ⟨q', a, g1, g2, g3, g4, g5⟩ := zlp (fun f i v => f_X7_lists_78 f (nI t) (nI k) (nI (min n z)) (nI i) v) (min n z) (fun i v => zk_k [71] s1 v ∧ v.1 = s1.1 ∧ (∀ j, j < i → v.2 71 (40 * t + j) = (oI (L.getD k zno j)).toInt64) ∧ ∀ j, (j < 40 * t ∨ 40 * t + i ≤ j) → v.2 71 j = s1.2 71 j)
    (fun f i v hi h => by
      obtain ⟨d1, d2, d3, d4⟩ := h
      show ∃ a', f_X7_lists_78 (f + 1) (nI t) (nI k) (nI (min n z)) (nI i) v = f_X7_lists_78 f (nI t) (nI k) (nI (min n z)) (nI (i + 1)) a' ∧ _
      have h7v : JH7 v n (2 ^ n - 1) L := by unfold JH7 at h7 ⊢; rw [d2]; exact h7
      have hsz := (((h2 v).1 (by rw [d2, c69])).2 (by rw [d2, c70])).1
      have ep : f_X6_put (nI t) (nI i) (oI (L.getD k zno i)).toInt64 v = some ((oI (L.getD k zno i)).toInt64, zs_l v 71 (40 * t + i) (oI (L.getD k zno i)).toInt64) := by
        rw [f_X6_put, if_neg (nI_pos (by omega)), hsz, zbd_some, if_pos (nI_lt (by omega) (by omega)), rd_69 v t rfl ht, Option.bind_some, d2, e69, cut7 hso, zbd_some, oq i (by omega), wr_71 v (40 * t + i) (by rw [pk_mul, nI_add, Nat.mul_comm]) (by omega), Option.bind_some]
      rw [f_X7_lists_78, if_neg (nI_ge hi (by omega)), part7 hn h7v hl hok (by omega) hk, zbd_some, ep, zbd_some, zb_eq, nI_1]
      refine ⟨_, rfl, d1.l (by simp), d2, fun j hj => ?_, fun j hj => ?_⟩
      · by_cases e : j = i
        · subst e; exact zs_l_v _ _ _ _
        · rw [zs_l_o _ _ _ _ _ (by omega)]; exact d3 j (by omega)
      · rw [zs_l_o _ _ _ _ _ (by omega)]; exact d4 j (by omega)) (min n z) 0 zFU s1 (by omega) (by show min n z < 5000; omega) ⟨zk_k.rf, rfl, fun j hj => by omega, fun _ _ => rfl⟩
  have g1' : f_X7_lists_78 zFU (nI t) (nI k) (nI (min n z)) 0 s1 = f_X7_lists_78 (q' + 1) (nI t) (nI k) (nI (min n z)) (nI (min n z)) a := g1
  have r7 : f_X7_lists (nI t) (nI k) s = some (nI (min n z), a) := by
    rw [f_X7_lists, h1, zbd_some, if_pos (by decide), ((h2 s).1 rfl).1, zbd_some, if_pos rfl, if_pos (nI_pos' (by omega)), a1, zbd_some, h7.1, if_pos (nI_lt hk (by omega)), (((h2 s1).1 c69).2 c70).1, zbd_some, hN1.1.2.2.1, min_ok n z (by omega) (by omega), zbd_some, g1', f_X7_lists_78, if_pos (nI_le (Nat.le_refl _) (by omega))]
  -- the reference, from there
  have hNa : JNx a n G M H D c0 c1 := hN1.keep g2 (by decide)
  obtain ⟨b0, i1, i2, i3⟩ := hld _ hNa.th.m
  have a98 : b0.1 98 t = nI z := by rw [(i3.1 98 (by decide)).1, zs_i_n _ _ _ _ _ (by decide), g3, c98]
  have a77 : b0.1 77 1 = nI n := by rw [(i3.1 77 (by decide)).1, zs_i_n _ _ _ _ _ (by decide)]; exact hNa.1.2.1
  have b99 : b0.2 99 = s1.2 99 := by
    rw [(i3.1 99 (by decide)).2]
    exact (g2 99 (by decide)).2
  obtain ⟨q2, b, j1, j2, j3, j4, j5⟩ := zlp (fun f i v => f_X8_lists_74 f (nI t) (nI k) (nI (min n z)) (nI i) v) (min n z) (fun i v => zk_k [99] b0 v ∧ v.1 = b0.1 ∧ (∀ j, j < i → v.2 99 (40 * t + j) = (oI (L.getD k zno j)).toInt64) ∧ ∀ j, (j < 40 * t ∨ 40 * t + i ≤ j) → v.2 99 j = b0.2 99 j)
    (fun f i v hi h => by
      obtain ⟨d1, d2, d3, d4⟩ := h
      show ∃ a', f_X8_lists_74 (f + 1) (nI t) (nI k) (nI (min n z)) (nI i) v = f_X8_lists_74 f (nI t) (nI k) (nI (min n z)) (nI (i + 1)) a' ∧ _
      rw [f_X8_lists_74, if_neg (nI_ge hi (by omega)), rd_92 v (7 * k + i) (by rw [pk_mul, nI_add]) (by omega), Option.bind_some, d2, i2.2 k hk i (by omega), wr_99 v (40 * t + i) (by rw [pk_mul, nI_add]) (by omega), Option.bind_some, zb_eq, nI_1]
      refine ⟨_, rfl, d1.l (by simp), d2, fun j hj => ?_, fun j hj => ?_⟩
      · by_cases e : j = i
        · subst e; exact zs_l_v _ _ _ _
        · rw [zs_l_o _ _ _ _ _ (by omega)]; exact d3 j (by omega)
      · rw [zs_l_o _ _ _ _ _ (by omega)]; exact d4 j (by omega)) (min n z) 0 zFU b0 (by omega) (by show min n z < 5000; omega) ⟨zk_k.rf, rfl, fun j hj => by omega, fun _ _ => rfl⟩
  have j1' : f_X8_lists_74 zFU (nI t) (nI k) (nI (min n z)) 0 b0 = f_X8_lists_74 (q2 + 1) (nI t) (nI k) (nI (min n z)) (nI (min n z)) b := j1
  have r8 : f_X8_lists (nI t) (nI k) a = some (nI (min n z), b) := by
    rw [f_X8_lists, zb_eq, (h2 (zs_i a 76 0 0)).2 (by rw [zs_i_n _ _ _ _ _ (by decide), g3, (k1 97 (by decide)).1]), zbd_some, if_pos rfl, if_pos (nI_pos' (by omega)), i1, zbd_some, i2.1, if_pos (nI_lt hk (by omega)), r77_1, Option.bind_some, a77, rd_98 b0 t rfl ht, Option.bind_some, a98]
    by_cases e : z ≤ n
    · rw [if_pos (nI_le e (by omega)), Option.bind_some, f_X8_lists_69]
      rw [Nat.min_eq_right e] at j1' ⊢
      rw [j1', f_X8_lists_74, if_pos (nI_le (Nat.le_refl _) (by omega))]
    · rw [if_neg (nI_ge (by omega) (by omega)), Option.bind_some, f_X8_lists_69]
      rw [Nat.min_eq_left (by omega)] at j1' ⊢
      rw [j1', f_X8_lists_74, if_pos (nI_le (Nat.le_refl _) (by omega))]
  have km : zk_m [99] b0 b := ⟨j2.mono (by decide), by rw [j3], by rw [j3], by rw [j3], by rw [j3]⟩
  have kab : zk_m (99 :: MC) a b := (zk_m.th.tr (i3.mono (by decide))).tr (km.mono (by decide))
  refine ⟨nI (min n z), a, b, r7, r8, hK1.keep g2 (by decide), (k1.mono (by decide)).tr (g2.mono (by decide)), kab, ?_, fun q hq => ?_⟩
  · rw [j3, (i3.1 93 (by decide)).1, zs_i_n _ _ _ _ _ (by decide)]
  · have f69 : b.1 69 = s1.1 69 := by rw [(kab.1 69 (by decide)).1, g3]
    have f70 : b.1 70 = s1.1 70 := by rw [(kab.1 70 (by decide)).1, g3]
    have f97 : b.1 97 = s1.1 97 := by rw [(kab.1 97 (by decide)).1, g3]
    have f98 : b.1 98 = s1.1 98 := by rw [(kab.1 98 (by decide)).1, g3]
    have f71 : b.2 71 = a.2 71 := (kab.1 71 (by decide)).2
    obtain ⟨q1, q2'⟩ := hY1 q hq
    rw [f69, f70, f97, f98, f71]
    refine ⟨q1, ?_⟩
    rcases q2' with q2' | ⟨q3, z2, q4, q5, q6, q7⟩
    · exact Or.inl q2'
    · refine Or.inr ⟨q3, z2, q4, q5, q6, fun i hi => ?_⟩
      by_cases e : q = t ∧ i < min n z
      · obtain ⟨rfl, e2⟩ := e
        rw [g4 i e2, j4 i e2]
      · have hout : 40 * q + i < 40 * t ∨ 40 * t + min n z ≤ 40 * q + i := by
          by_cases e1 : q = t
          · subst e1
            have : ¬ i < min n z := fun zz => e ⟨rfl, zz⟩
            omega
          · rcases Nat.lt_or_gt_of_ne e1 with e2 | e2
            · left; omega
            · right; omega
        rw [g5 _ hout, j5 _ hout, b99]
        exact q7 i hi
end LISTS
