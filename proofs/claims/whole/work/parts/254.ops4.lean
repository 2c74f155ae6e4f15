section OPS4
variable {n u : Nat} {G M H D A B A2 B2 : Nat → Nat} {c0 c1 : List Nat} {s a b : zS} {st : (Nat → Nat) × (Nat → Nat) × (Nat → Option Nat)} {W : Nat → Option Nat}
theorem q_year (hN : JNx s n G M H D c0 c1) (hK : JK s n G M H c0 c1 A B) (hU : JU2 s n u) (hab : AB A B 100) (x y : Int32) : OR (f_X7_year x y) (f_X8_year x y) s n H D c0 c1 A B := by
  obtain ⟨W, hW, hV⟩ := hN.W
  have hn := hN.1.1
  have hR : RSt s n (G, M, W) c0 c1 := ⟨hN.m, hV⟩
  have no : f_X7_year x y s = some (-3, s) → f_X8_year x y s = some (-3, zs_i s 76 0 0) → OR (f_X7_year x y) (f_X8_year x y) s n H D c0 c1 A B := fun h1 h2 => OR.go (r := -3) (a := s) (b := zs_i s 76 0 0) (st := (G, M, W)) hN hU h1 h2 ⟨hK, hW⟩ zk_k.rf (hR.keep rfl) RDy.th AG.rf
  have w0 : ¬ (1 ≤ y.toInt ∧ y.toInt ≤ 40) → f_X8_year x y s = some (-3, zs_i s 76 0 0) := fun h => by
    rw [f_X8_year, zb_eq, wi_ok, if_neg (fun z => h ⟨(l_ge (n := 1) rfl).mp z.1, (l_le (n := 40) rfl).mp z.2⟩), zbd_some, if_neg (fun z => z rfl)]
  rcases i_cases y 41 (by decide) with ⟨h, -⟩ | ⟨h0, h⟩ | ⟨v, hv, rfl⟩
  · have h2 : y.toInt < 0 := Int32.lt_iff_toInt_lt.mp h
    refine no ?_ (w0 (by omega))
    rw [f_X7_year, if_pos (Int32.lt_iff_toInt_lt.mpr (by show y.toInt < 1; omega))]; rfl
  · have h2 : (41 : Int) ≤ y.toInt := Int32.le_iff_toInt_le.mp h
    refine no ?_ (w0 (by omega))
    rw [f_X7_year, if_neg (fun z => by have h3 : y.toInt < 1 := Int32.lt_iff_toInt_lt.mp z; omega), if_neg (fun z => by have h3 : y.toInt ≤ 40 := Int32.le_iff_toInt_le.mp z; omega)]; rfl
  · have hx : (nI v).toInt = v := nI_toInt (by omega)
    by_cases hv0 : v = 0
    · refine no ?_ (w0 (by omega))
      rw [f_X7_year, if_pos (Int32.lt_iff_toInt_lt.mpr (by show (nI v).toInt < 1; omega))]; rfl
    have hl : ¬ nI v < (1 : Int32) := fun z => by have h3 : (nI v).toInt < 1 := Int32.lt_iff_toInt_lt.mp z; omega
    have hw : ∀ t, f_X8_within (nI v).toInt64 1 40 t = some (1, t) := fun t => by
      rw [wi_ok, if_pos ⟨(l_ge (n := 1) rfl).mpr (by omega), (l_le (n := 40) rfl).mpr (by omega)⟩]
    obtain ⟨s1, p1, p2, p3⟩ := hold_7 s
    have hS1 : CSt s1 n (G, M, W) H c0 c1 A B := ⟨hK.w p2 (by decide), hW.keep p2 (by decide)⟩
    obtain ⟨s3, A2, B2, a1, a2, a3, a4⟩ := year7 (z := v) (n := n) (c0 := c0) (c1 := c1) (H := H) v 0 zFU 0 (G, M, W) A B (zs_i s1 72 5 x) (by omega) (show v < 5000 by omega) (by omega) (Nat.le_refl _) hS1.x (hab.less (by omega))
    rw [zs_i_v] at a1 a2
    have k3 : zk_k DC s1 s3 := (zk_k.rf.i (by decide)).tr a3
    have go8 : ∀ w, zk_k C7 s w → ∃ t1 t2 f', f_X8_keeps (zs_i w 76 0 0) = some ((), t1) ∧ RSt (zs_i w 76 0 0) n (G, M, W) c0 c1 ∧ zk_k [90] (zs_i w 76 0 0) t1 ∧ RDy t1 t2 ∧ RSt t2 n (zyr n c0 c1 v x 0 (G, M, W)).2 c0 c1 ∧ (zyr n c0 c1 v x 0 (G, M, W)).1 ≤ v ∧ f_X8_year x (nI v) w = f_X8_year_34 (f' + 1) (nI v) (nI (zyr n c0 c1 v x 0 (G, M, W)).1) (nI v) t2 := fun w hw' => by
      have hRv : RSt (zs_i w 76 0 0) n (G, M, W) c0 c1 := hR.keep (hw' 77 (by decide)).1
      obtain ⟨t1, g1, g2, g3⟩ := keeps_8 (zs_i w 76 0 0)
      have r1 : RSt (zs_i t1 76 29 x) n (G, M, W) c0 c1 := RSt.keep hRv (g2 77 (by decide)).1
      obtain ⟨t2, f', i1, i2, i3, i4⟩ := year8 (z := v) (n := n) (c0 := c0) (c1 := c1) v 0 zFU 0 (G, M, W) (zs_i t1 76 29 x) (by omega) (show v < 5000 by omega) (by omega) (Nat.le_refl _) r1
      rw [zs_i_v] at i1 i2 i4
      refine ⟨t1, t2, f', g1, hRv, g2, RDy.tr ⟨⟨zk_k.rf.i (by simp), zs_i_o _ _ _ _ _ (by decide), zs_i_o _ _ _ _ _ (by decide), zs_i_o _ _ _ _ _ (by decide)⟩, fun _ _ => rfl, rfl⟩ i3, i2, i4, ?_⟩
      rw [f_X8_year, zb_eq, hw, zbd_some, if_pos (by decide), g1, zbd_some, zb_eq]
      exact i1
    have e7 : f_X7_year x (nI v) s = zbd (f_X7_keepIfAny (nI (zyr n c0 c1 v x 0 (G, M, W)).1) s3) fun r4 s5 => some (r4, s5) := by
      rw [f_X7_year, if_neg hl, if_pos (show nI v ≤ nI 40 from nI_le (by omega) (by decide)), p1, zbd_some, f_X1_doYear, zb_eq, show f_X1_doYear_10 zFU (nI v) 0 0 (zs_i s1 72 5 x) = _ from a1, zbd_some]
    generalize hr : (zyr n c0 c1 v x 0 (G, M, W)).1 = r at *
    by_cases e : r = 0
    · have k3' : zk_k (75 :: DC) s s3 := (p2.mono (by decide)).tr (k3.mono (by decide))
      obtain ⟨t1, t2, f', c2, c3, c4, c5, c6, c7, c8⟩ := go8 s3 (k3'.mono (by decide))
      refine OR.go2 (r := nI r) (a := s3) (b := t2) hN hU ?_ ?_ a2 k3' c6 ((RDz.th.tr (RDz.k9 c4)).tr c5.z) (fun j hj _ => by rw [c5.2.1 j (by omega), (c4 77 (by decide)).1, zs_i_n _ _ _ _ _ (by decide)]) (a4.up (by omega))
      · rw [e7, f_X7_keepIfAny, if_pos (by rw [e]; decide)]; rfl
      · rw [c8, f_X8_year_34, if_pos (nI_le (Nat.le_refl _) (by omega)), if_pos (by rw [e]; decide)]; rfl
    · obtain ⟨-, -, -, -, -, -, -, -, hle, -⟩ := go8 s zk_k.rf
      have hpos : ¬ nI r ≤ (0 : Int32) := nI_nle (by omega) (by omega)
      refine OR.did (r := nI r) hN hW hU p2 p3 k3 a2 (a4.up (by omega)) (fun a f1 f2 => ?_) (fun a f1 => ?_)
      · rw [e7, f_X7_keepIfAny, if_neg hpos, f1, zbd_some]; rfl
      · obtain ⟨t1, t2, f', c2, c3, c4, c5, c6, c7, c8⟩ := go8 a f1
        refine ⟨_, t1, t2, RDy.th, c3, c2, c5, c6, fun b j1 _ _ => ?_⟩
        rw [c8, f_X8_year_34, if_pos (nI_le (Nat.le_refl _) (by omega)), if_neg hpos, j1, zbd_some]; rfl
theorem zink_127 (hn : n ≤ 7) : zink n G (2 ^ n - 1) = zink n G 127 := by
  rcases (by omega : n = 0 ∨ n = 1 ∨ n = 2 ∨ n = 3 ∨ n = 4 ∨ n = 5 ∨ n = 6 ∨ n = 7) with rfl | rfl | rfl | rfl | rfl | rfl | rfl | rfl <;> rfl
theorem inkK (hZ : ZK s n G M c0 c1) {m : Nat} (hm : m < 1024) : f_X5_inkOf_3 (nI m) s = some (nI (zink n G m), s) := by
  have hn := hZ.1
  have K := loop_fold (fun q i c => f_X5_inkOf_3_4 q (nI m) (nI c) (nI i) s) n (fun p c => c + (if m.testBit p then zpc 9 (G p) else 0)) (fun c => some (nI c, s)) (fun _ _ => True)
    (fun q i c hi _ => by
      refine ⟨?_, trivial⟩
      show f_X5_inkOf_3_4 (q + 1) (nI m) (nI c) (nI i) s = _
      rw [f_X5_inkOf_3_4, hZ.2.1, if_neg (nI_ge hi (by omega)), ush_tb (by omega) hm]
      by_cases ht : m.testBit i = true
      · rw [if_pos ht, if_neg (fun z => z rfl), rd_4 s i rfl (by omega), Option.bind_some, (hZ.2.2.1 i hi).1.1, bc_ok s (hZ.2.2.1 i hi).1.2, zbd_some, zb_eq, nI_add, f_X5_inkOf_3_33, zb_eq, nI_1]
        simp only [ht, if_true]
      · rw [if_neg ht, if_pos (by decide), f_X5_inkOf_3_33, zb_eq, nI_1]
        simp only [ht]
        rfl)
    (fun q c _ => by
      show f_X5_inkOf_3_4 (q + 1) (nI m) (nI c) (nI n) s = _
      rw [f_X5_inkOf_3_4, hZ.2.1, if_pos (nI_le (Nat.le_refl n) (by omega))])
    n 0 zFU 0 (by omega) (by show n < 5000; omega) trivial
  exact K.1
theorem inkM (hZ : ZM s n G M c0 c1) {m : Nat} (hm : m < 1024) : f_X8_inkOf (nI m) s = some (nI (zink n G m), s) := by
  have hn := hZ.1
  have K := loop_fold (fun q i c => f_X8_inkOf_4 q (nI m) (nI c) (nI i) s) n (fun p c => c + (if m.testBit p then zpc 9 (G p) else 0)) (fun c => some (nI c, s)) (fun _ _ => True)
    (fun q i c hi _ => by
      refine ⟨?_, trivial⟩
      show f_X8_inkOf_4 (q + 1) (nI m) (nI c) (nI i) s = _
      rw [f_X8_inkOf_4, r77_1 s, Option.bind_some, hZ.2.1, if_neg (nI_ge hi (by omega)), in_ok s (by omega) hm, zbd_some]
      by_cases ht : m.testBit i = true
      · rw [if_pos ht, if_neg (by decide), nI_add, rd_77 s (29 + i) rfl (by omega), Option.bind_some, (hZ.2.2.1 i hi).1.1, bits_512 (hZ.2.2.1 i hi).1.2, zbd_some, f_X8_inkOf_40, zb_eq, zb_eq, nI_add, nI_1]
        simp only [ht, if_true]
      · rw [if_neg ht, if_pos rfl, f_X8_inkOf_40, zb_eq, zb_eq, nI_1, show nI c + (0 : Int32) = nI (c + 0) from nI_add c 0]
        simp only [ht]
        rfl)
    (fun q c _ => by
      show f_X8_inkOf_4 (q + 1) (nI m) (nI c) (nI n) s = _
      rw [f_X8_inkOf_4, r77_1 s, Option.bind_some, hZ.2.1, if_pos (nI_le (Nat.le_refl n) (by omega))])
    n 0 zFU 0 (by omega) (by show n < 5000; omega) trivial
  exact K.1
theorem engK (hZ : ZK s n G M c0 c1) (hW : KW s n W) : f_X5_engagedBits_3 s = some (nI (zeng n (fun p => oI (W p))), s) := by
  have hn := hZ.1
  have K := loop_fold (fun q i c => f_X5_engagedBits_3_4 q (nI c) (nI i) s) n (fun p c => if oI (W p) = -1 then c else c + 2 ^ p) (fun c => some (nI c, s)) (fun i c => c < 2 ^ i)
    (fun q i c hi hc => by
      have h7 : 2 ^ i ≤ 2 ^ 7 := Nat.pow_le_pow_right (by decide) (by omega)
      constructor
      · show f_X5_engagedBits_3_4 (q + 1) (nI c) (nI i) s = _
        rw [f_X5_engagedBits_3_4, hZ.2.1, if_neg (nI_ge hi (by omega)), rd_8 s i rfl (by omega), Option.bind_some, hW.1 i hi]
        cases hw : W i with
        | none => 
          rw [show oI none = (-1 : Int32) from rfl, if_pos (by decide), f_X5_engagedBits_3_27, zb_eq, nI_1]
          simp only [if_true]
        | some j =>
          have := (hW.2 i j hi hw).1
          rw [show oI (some j) = nI j from rfl, if_neg (nI_pos (by omega)), zb_eq, one_shl i (by omega), or_bit i (by omega) c (by omega) hc, f_X5_engagedBits_3_27, zb_eq, nI_1, if_neg (ne_m1 (by omega))]
      · show (if oI (W i) = -1 then c else c + 2 ^ i) < 2 ^ (i + 1)
        rw [Nat.pow_succ]
        split <;> omega)
    (fun q c _ => by
      show f_X5_engagedBits_3_4 (q + 1) (nI c) (nI n) s = _
      rw [f_X5_engagedBits_3_4, hZ.2.1, if_pos (nI_le (Nat.le_refl n) (by omega))])
    n 0 zFU 0 (by omega) (by show n < 5000; omega) (by decide)
  exact K.1
theorem engM (hZ : ZM s n G M c0 c1) (hW : RW s n W) : f_X8_engagedSet s = some (nI (zeng n (fun p => oI (W p))), s) := by
  have hn := hZ.1
  have K := loop_fold (fun q i c => f_X8_engagedSet_4 q (nI c) (nI i) s) n (fun p c => if oI (W p) = -1 then c else c + 2 ^ p) (fun c => some (nI c, s)) (fun i c => c < 2 ^ i)
    (fun q i c hi hc => by
      have h7 : 2 ^ i ≤ 2 ^ 7 := Nat.pow_le_pow_right (by decide) (by omega)
      constructor
      · show f_X8_engagedSet_4 (q + 1) (nI c) (nI i) s = _
        rw [f_X8_engagedSet_4, r77_1 s, Option.bind_some, hZ.2.1, if_neg (nI_ge hi (by omega)), nI_add, rd_77 s (22 + i) rfl (by omega), Option.bind_some, hW.1 i hi]
        by_cases hw : oI (W i) = -1
        · rw [if_neg (fun z => z hw), f_X8_engagedSet_35, zb_eq, zb_eq, or_zero, nI_1, if_pos hw]
        · rw [if_pos hw, one_shl i (by omega), f_X8_engagedSet_35, zb_eq, zb_eq, or_bit i (by omega) c (by omega) hc, nI_1, if_neg hw]
      · show (if oI (W i) = -1 then c else c + 2 ^ i) < 2 ^ (i + 1)
        rw [Nat.pow_succ]
        split <;> omega)
    (fun q c _ => by
      show f_X8_engagedSet_4 (q + 1) (nI c) (nI n) s = _
      rw [f_X8_engagedSet_4, r77_1 s, Option.bind_some, hZ.2.1, if_pos (nI_le (Nat.le_refl n) (by omega))])
    n 0 zFU 0 (by omega) (by show n < 5000; omega) (by decide)
  exact K.1
theorem inkall7 (hZ : ZK s n G M c0 c1) : f_X5_inkOfAll_3 s = some (nI (zink n G 127), s) := by
  have hn := hZ.1
  have h7 : 2 ^ n ≤ 2 ^ 7 := Nat.pow_le_pow_right (by decide) hn
  have e : f_X5_everybody_3 s = some (nI (2 ^ n - 1), s) := by
    rw [f_X5_everybody_3, hZ.2.1, one_shl n (by omega)]
    exact congrArg (fun x => some (x, s)) (pk_sub (b := 1) (Nat.one_le_two_pow))
  rw [f_X5_inkOfAll_3, e, zbd_some, inkK hZ (by omega), zbd_some, zink_127 hn]
theorem q_judge (hN : JNx s n G M H D c0 c1) (hK : JK s n G M H c0 c1 A B) (hU : JU2 s n u) (hY : JY s) (hab : AB A B 100) (x y : Int32) : OR (f_X7_judge x y) (f_X8_judge x y) s n H D c0 c1 A B := by
  obtain ⟨W, hW, hV⟩ := hN.W
  have hn := hN.1.1
  have hR : RSt s n (G, M, W) c0 c1 := ⟨hN.m, hV⟩
  have no : ∀ r, f_X7_judge x y s = some (r, s) → f_X8_judge x y s = some (r, zs_i s 76 0 0) → OR (f_X7_judge x y) (f_X8_judge x y) s n H D c0 c1 A B := fun r h1 h2 => OR.go (r := r) (a := s) (b := zs_i s 76 0 0) (st := (G, M, W)) hN hU h1 h2 ⟨hK, hW⟩ zk_k.rf (hR.keep rfl) RDy.th AG.rf
  rcases wi_c (x := y) (m := 3) (y := (3 : Int64)) (by decide) rfl with ⟨w1, w2⟩ | ⟨v, hv, rfl, w1⟩
  · have h8 : f_X8_judge x y s = some (-2, zs_i s 76 0 0) := by
      rw [f_X8_judge, zb_eq, w1, zbd_some, if_neg (fun z => z rfl)]
    refine no (-2) ?_ h8
    have hi : f_X6_isOne x s = some (0, s) ∨ f_X6_isOne x s = some (1, s) := by
      rcases tray_all hY x with h | ⟨t, ht, rfl, h1, -⟩
      · exact Or.inl (h s).1
      · exact Or.inr (h1 s)
    rcases hi with h | h
    · rw [f_X7_judge, h, zbd_some, if_pos rfl]; rfl
    · rw [f_X7_judge, h, zbd_some, if_neg (by decide)]
      rcases w2 with h | ⟨h, h'⟩
      · rw [if_pos h]; rfl
      · rw [if_neg h, if_neg (fun z => by
          have h1 := Int32.le_iff_toInt_le.mp h'
          have h2 := Int32.le_iff_toInt_le.mp z
          have h3 : (nI (3 + 1)).toInt = 4 := rfl
          have h4 : (nI 3).toInt = 3 := rfl
          omega)]; rfl
  have y0 : ¬ nI v < (0 : Int32) := nI_pos (by omega)
  have y3 : nI v ≤ nI 3 := nI_le hv (by decide)
  rcases tray_all hY x with h | ⟨t, ht, rfl, h1, h2 | ⟨z, hz, h98, hX, h2⟩⟩
  · refine no (-2) ?_ ?_
    · rw [f_X7_judge, (h s).1, zbd_some, if_pos rfl]; rfl
    · rw [f_X8_judge, zb_eq, w1, zbd_some, if_pos (by decide), (h _).2, zbd_some, if_neg (by decide)]
  · refine no (-6) ?_ ?_
    · rw [f_X7_judge, h1, zbd_some, if_neg (by decide), if_neg y0, if_pos y3, (h2 s).1 rfl, zbd_some, if_neg (by decide)]
    · rw [f_X8_judge, zb_eq, w1, zbd_some, if_pos (by decide), (h2 (zs_i s 76 0 0)).2 rfl, zbd_some, if_neg (by decide)]
  · obtain ⟨s1, p1, p2, p3⟩ := hold_7 s
    have hS1 : CSt s1 n (G, M, W) H c0 c1 A B := ⟨hK.w p2 (by decide), hW.keep p2 (by decide)⟩
    have c69 : s1.1 69 = s.1 69 := (p2 69 (by decide)).1
    have c70 : s1.1 70 = s.1 70 := (p2 70 (by decide)).1
    obtain ⟨s3, A2, B2, a1, a2, a3, a4, a5⟩ := tray_do (X := fun j => s.2 71 (40 * t + j)) hS1 (hab.less (by decide)) ht hz (((h2 s1).1 c69).2 c70).1 (fun v hv j hj => (((h2 v).1 (by rw [(hv 69 (by decide)).1, c69])).2 (by rw [(hv 70 (by decide)).1, c70])).2 (by rw [(hv 71 (by decide)).2, (p2 71 (by decide)).2]) j hj)
    obtain ⟨s12, G2, M2, A3, B3, b1, b2, b3, b4, b5⟩ := giveback7 (G0 := G) (M0 := M) (W0 := W) a2.1 (fun p hp => by
      obtain ⟨q1, q2, q3⟩ := p3 p (by omega)
      have e75 : s3.1 75 = s1.1 75 := (a4 75 (by decide)).1
      obtain ⟨z1, z2⟩ := hN.k.2.2.1 p hp
      rw [e75, q1, q2, q3]
      exact ⟨hW.1 p hp, z1, z2⟩) hW.2 ((hab.less (show 40 + 1 ≤ 100 by decide)).go a5)
    have k12 : zk_k (75 :: DC) s s12 := ((p2.mono (by decide)).tr (a4.mono (by decide))).tr (b3.mono (by decide))
    have e72 : s12.1 72 4 = nI (ztl n c0 c1 (fun j => s.2 71 (40 * t + j)) z 0 (G, M, W)).2.1 := by rw [(b3 72 (by decide)).1, a3]
    have e77 : s12.1 77 = s.1 77 := (k12 77 (by decide)).1
    have hRv : RSt (zs_i s12 76 0 0) n (G, M, W) c0 c1 := hR.keep e77
    obtain ⟨t1, g1, g2, g3⟩ := keeps_8 (zs_i s12 76 0 0)
    have r1 : RSt t1 n (G, M, W) c0 c1 := RSt.keep hRv (g2 77 (by decide)).1
    obtain ⟨t2, i1, i2, i3, i4⟩ := tell_do (X := fun j => s.2 71 (40 * t + j)) r1 ht hz (by rw [(g2 98 (by decide)).1, zs_i_n _ _ _ _ _ (by decide), (k12 98 (by decide)).1]; exact h98) (fun j hj => by
        have e : (zs_i s12 76 0 0).2 = s12.2 := rfl
        rw [(g2 99 (by decide)).2, e, (k12 99 (by decide)).2]; exact (hX j hj).symm)
    obtain ⟨t3, j1, j2, j3, j4⟩ := again_8 t2
    have n90 : ∀ k, k < 21 → t3.1 77 (22 + k) = s.1 77 (22 + k) := fun k hk => by
      rw [j3 k hk, (i4.1.1 90 (by decide)).1, g3 k hk, zs_i_n _ _ _ _ _ (by decide), e77]
    have n77 : ∀ j, (j < 22 ∨ 43 ≤ j) → t3.1 77 j = s.1 77 j := fun j hj => by
      rw [j4 j hj, i4.2.1 j hj, (g2 77 (by decide)).1, zs_i_n _ _ _ _ _ (by decide), e77]
    have hb : RSt t3 n (G2, M2, W) c0 c1 := by
      refine ⟨hR.1.set (fun j hj => n77 j (by omega)) (fun p hp => ?_), ⟨fun p hp => ?_, hW.2⟩⟩
      · obtain ⟨z1, z2⟩ := b5 p hp
        show (t3.1 77 (29 + p) = nI (G2 p) ∧ G2 p < 512) ∧ t3.1 77 (36 + p) = nI (M2 p) ∧ M2 p < 10
        rw [z1, z2, show 29 + p = 22 + (7 + p) by omega, show 36 + p = 22 + (14 + p) by omega, n90 _ (by omega), n90 _ (by omega), show 22 + (7 + p) = 29 + p by omega, show 22 + (14 + p) = 36 + p by omega]
        exact hR.1.2.2.1 p hp
      · rw [n90 p (by omega)]; exact hR.2.1 p hp
    have e28 : t3.1 76 28 = nI (ztl n c0 c1 (fun j => s.2 71 (40 * t + j)) z 0 (G, M, W)).2.1 := by rw [(j2 76 (by decide)).1, i3]
    refine OR.go2 (r := if v = 0 then (if ¬ nI (ztl n c0 c1 (fun j => s.2 71 (40 * t + j)) z 0 (G, M, W)).2.1 = 0 then nI (ztl n c0 c1 (fun j => s.2 71 (40 * t + j)) z 0 (G, M, W)).1 else -1) else if v = 1 then nI (ztl n c0 c1 (fun j => s.2 71 (40 * t + j)) z 0 (G, M, W)).2.1 else if v = 2 then nI (zeng n (fun p => oI ((ztl n c0 c1 (fun j => s.2 71 (40 * t + j)) z 0 (G, M, W)).2.2.2.2 p))) else nI (zink n (ztl n c0 c1 (fun j => s.2 71 (40 * t + j)) z 0 (G, M, W)).2.2.1 127)) (a := s12) (b := t3) hN hU ?_ ?_ b2 k12 hb ((RDz.th.tr (RDz.k9 g2)).tr (i4.z.tr (RDz.k7 j2 (fun j hj => j4 j (by omega))))) (fun j hj _ => by rw [n77 j (by omega), e77]) ((a5.tr b4).up (by decide))
    · rw [f_X7_judge, h1, zbd_some, if_neg (by decide), if_neg y0, if_pos y3, ((h2 s).1 rfl).1, zbd_some, if_pos rfl, p1, zbd_some, a1, zbd_some, engK a2.1.1.1.1 a2.2, zbd_some, inkall7 a2.1.1.1.1, zbd_some, b1, zbd_some, e72]
      rcases (by omega : v = 0 ∨ v = 1 ∨ v = 2 ∨ v = 3) with rfl | rfl | rfl | rfl
      · rw [if_pos (show nI 0 = (0 : Int32) from rfl), if_pos rfl]; split <;> rfl
      · rfl
      · rfl
      · rfl
    · rw [f_X8_judge, zb_eq, w1, zbd_some, if_pos (by decide), (h2 (zs_i s12 76 0 0)).2 (k12 97 (by decide)).1, zbd_some, if_pos rfl, g1, zbd_some, i1, zbd_some, engM i2.1 i2.2, zbd_some, show f_X8_inkOf (nI 127) t2 = _ from inkM i2.1 (by decide), zbd_some, j1, zbd_some, e28]
      rcases (by omega : v = 0 ∨ v = 1 ∨ v = 2 ∨ v = 3) with rfl | rfl | rfl | rfl
      · rw [if_neg (fun z => z rfl), if_pos rfl]; split <;> rfl
      · rfl
      · rfl
      · rfl
end OPS4
