/-- a draw -/
def zrn (x : Int32) : Int32 := (1103515245 : Int32) * x + nI 12345
def zwd (x : Int32) : Nat := x.toBitVec.toNat / 65536
theorem ush16 (x : Int32) : zo_ush x (nI 16) = nI (zwd x) ∧ zwd x < 65536 := by
  have hlt : zwd x < 65536 := by
    have := x.toBitVec.isLt
    unfold zwd
    omega
  refine ⟨?_, hlt⟩
  have h := pk_ushr x (nI 16) 16 (s_u 16 (by decide))
  have h2 : (zo_ush x (nI 16)).toBitVec.toNat = (nI (zwd x)).toBitVec.toNat := by
    rw [pk_tn (by omega)]
    exact h
  exact Int32.toBitVec_inj.mp (BitVec.eq_of_toNat_eq h2)
theorem draw7 {d : Nat} (h0 : 0 < d) (hd : d < 100) (s : zS) : f_X1_draw (nI d) s = some (nI (zwd (zrn (s.1 72 5)) % d), zs_i s 72 5 (zrn (s.1 72 5))) := by
  obtain ⟨h1, h2⟩ := ush16 (zrn (s.1 72 5))
  have e : (1103515245 : Int32) * s.1 72 5 + nI 12345 = zrn (s.1 72 5) := rfl
  rw [f_X1_draw, e, zb_eq, if_neg (nI_nle h0 (by omega)), if_neg (nI_ne0 h0 (by omega)), zs_i_v, h1, show zo_rem (nI (zwd (zrn (s.1 72 5)))) (nI d) = nI (zwd (zrn (s.1 72 5)) % d) from pk_rem (by omega) h0 (by omega)]
  rfl
theorem draw8 {d : Nat} (h0 : 0 < d) (hd : d < 100) (s : zS) : f_X8_draw (nI d) s = some (nI (zwd (zrn (s.1 76 29)) % d), zs_i s 76 29 (zrn (s.1 76 29))) := by
  obtain ⟨h1, h2⟩ := ush16 (zrn (s.1 76 29))
  have e : (1103515245 : Int32) * s.1 76 29 + nI 12345 = zrn (s.1 76 29) := rfl
  rw [f_X8_draw, e, zb_eq, if_neg (nI_ne0 h0 (by omega)), zs_i_v, h1, show zo_rem (nI (zwd (zrn (s.1 76 29)))) (nI d) = nI (zwd (zrn (s.1 76 29)) % d) from pk_rem (by omega) h0 (by omega)]
/-- a year: which deed is drawn, and what the draws go on from -/
def zyd (x : Int32) : Nat × Nat × Nat × Int32 :=
  if zwd (zrn x) % 6 < 3 then (0, zwd (zrn (zrn x)) % 7, zwd (zrn (zrn (zrn x))) % 7, zrn (zrn (zrn x)))
  else if zwd (zrn x) % 6 = 3 then (1, 0, zwd (zrn (zrn x)) % 7, zrn (zrn x))
  else if zwd (zrn x) % 6 = 4 then (2, zwd (zrn (zrn x)) % 7, zwd (zrn (zrn (zrn x))) % 9, zrn (zrn (zrn x)))
  else (3, zwd (zrn (zrn x)) % 7, zwd (zrn (zrn (zrn x))) % 10, zrn (zrn (zrn x)))
def zyr (n : Nat) (c0 c1 : List Nat) : Nat → Int32 → Nat → (Nat → Nat) × (Nat → Nat) × (Nat → Option Nat) → Nat × (Nat → Nat) × (Nat → Nat) × (Nat → Option Nat)
  | 0, _, c, st => (c, st)
  | k + 1, x, c, st => zyr n c0 c1 k (zyd x).2.2.2 (if (zdo n c0 c1 (zyd x).1 (zyd x).2.1 (zyd x).2.2.1 st).1 = 0 then c + 1 else c) (zdo n c0 c1 (zyd x).1 (zyd x).2.1 (zyd x).2.2.1 st).2
section YEAR
variable {n : Nat} {H A B : Nat → Nat} {c0 c1 : List Nat} {s : zS} {st : (Nat → Nat) × (Nat → Nat) × (Nat → Option Nat)}
theorem CSt.x (hS : CSt s n st H c0 c1 A B) {j : Nat} {v : Int32} : CSt (zs_i s 72 j v) n st H c0 c1 A B := ⟨hS.1.w (zk_k.rf.i (S := [72]) (by simp)) (by decide), hS.2.keep (zk_k.rf.i (S := [72]) (by simp)) (by decide)⟩
theorem year7 {z : Nat} : ∀ (k i f c : Nat) (st : (Nat → Nat) × (Nat → Nat) × (Nat → Option Nat)) (A B : Nat → Nat) (s : zS), i + k = z → k < f → z ≤ 40 → c ≤ i → CSt s n st H c0 c1 A B → AB A B k →
    ∃ s' A2 B2, f_X1_doYear_10 f (nI z) (nI c) (nI i) s = some (nI (zyr n c0 c1 k (s.1 72 5) c st).1, s') ∧ CSt s' n (zyr n c0 c1 k (s.1 72 5) c st).2 H c0 c1 A2 B2 ∧ zk_k DC s s' ∧ AG A B A2 B2 k := by
  intro k
  induction k with
  | zero =>
    intro i f c st A B s hi hf hz hc hS hab
    obtain ⟨f, rfl⟩ : ∃ r, f = r + 1 := ⟨f - 1, by omega⟩
    rw [f_X1_doYear_10, if_pos (nI_le (by omega) (by omega))]
    exact ⟨s, A, B, rfl, hS, zk_k.rf, AG.rf⟩
  | succ k ih =>
    intro i f c st A B s hi hf hz hc hS hab
    obtain ⟨f, rfl⟩ : ∃ r, f = r + 1 := ⟨f - 1, by omega⟩
    rw [f_X1_doYear_10, if_neg (nI_ge (by omega) (by omega)), draw7 (by decide) (by decide), zbd_some]
    have h6 : zwd (zrn (s.1 72 5)) % 6 < 6 := Nat.mod_lt _ (by decide)
    have emax : f_J9_max_7cf53 (0 : Int32) (nI (zwd (zrn (s.1 72 5)) % 6) - nI 2) (zs_i s 72 5 (zrn (s.1 72 5))) = some (nI (zwd (zrn (s.1 72 5)) % 6 - 2), zs_i s 72 5 (zrn (s.1 72 5))) := by
      generalize zwd (zrn (s.1 72 5)) % 6 = h at h6
      rcases (by omega : h = 0 ∨ h = 1 ∨ h = 2 ∨ h = 3 ∨ h = 4 ∨ h = 5) with rfl | rfl | rfl | rfl | rfl | rfl <;> rfl
    rw [emax, zbd_some, draw7 (by decide) (by decide), zbd_some, zs_i_v]
    -- the state behind two draws
    generalize hu : zs_i (zs_i s 72 5 (zrn (s.1 72 5))) 72 5 (zrn (zrn (s.1 72 5))) = u
    have ku : zk_k [72] s u := by rw [← hu]; exact (zk_k.rf.i (by simp)).i (by simp)
    have hSu : CSt u n st H c0 c1 A B := by rw [← hu]; exact hS.x.x
    have eu : u.1 72 5 = zrn (zrn (s.1 72 5)) := by rw [← hu, zs_i_v]
    have hp7 : zwd (zrn (zrn (s.1 72 5))) % 7 < 7 := Nat.mod_lt _ (by decide)
    -- behind a deed
    have fin : ∀ (k2 a b : Nat) (x : Int32) (v : zS) (A2 B2 : Nat → Nat), zyd (s.1 72 5) = (k2, a, b, x) → CSt v n (zdo n c0 c1 k2 a b st).2 H c0 c1 A2 B2 → zk_k DC s v → AG A B A2 B2 1 → v.1 72 5 = x →
        ∃ s' A2 B2, f_X1_doYear_92 (f_X1_doYear_10 f) (nI z) (nI c) (nI i) (nI (zdo n c0 c1 k2 a b st).1) v = some (nI (zyr n c0 c1 (k + 1) (s.1 72 5) c st).1, s') ∧ CSt s' n (zyr n c0 c1 (k + 1) (s.1 72 5) c st).2 H c0 c1 A2 B2 ∧ zk_k DC s s' ∧ AG A B A2 B2 (k + 1) := by
      intro k2 a b x v A2 B2 hy hv kv hag hx
      have hle : (zdo n c0 c1 k2 a b st).1 ≤ 4 := zdo_le _ _ _
      rw [zyr, hy]
      unfold f_X1_doYear_92 f_X1_doYear_103
      by_cases e : (zdo n c0 c1 k2 a b st).1 = 0
      · rw [e, if_neg (fun z => z rfl), zb_eq, zb_eq, nI_1, nI_1]
        obtain ⟨s', A3, B3, b1, b2, b3, b4⟩ := ih (i + 1) f (c + 1) _ A2 B2 v (by omega) (by omega) hz (by omega) hv (AB.go (k := 1) (l := k) (by rw [Nat.add_comm]; exact hab) hag)
        rw [hx] at b1 b2
        refine ⟨s', A3, B3, ?_, ?_, kv.tr b3, (hag.tr b4).up (by omega)⟩
        · rw [b1, if_pos rfl]
        · rw [if_pos rfl]; exact b2
      · rw [if_pos (nI_ne0 (by omega) (by omega)), zb_eq, zb_eq, show nI c + (0 : Int32) = nI (c + 0) from nI_add c 0, Nat.add_zero, nI_1]
        obtain ⟨s', A3, B3, b1, b2, b3, b4⟩ := ih (i + 1) f c _ A2 B2 v (by omega) (by omega) hz (by omega) hv (AB.go (k := 1) (l := k) (by rw [Nat.add_comm]; exact hab) hag)
        rw [hx] at b1 b2
        refine ⟨s', A3, B3, ?_, ?_, kv.tr b3, (hag.tr b4).up (by omega)⟩
        · rw [b1, if_neg e]
        · rw [if_neg e]; exact b2
    -- a deed with a third draw
    have third : ∀ (k2 d : Nat), k2 ≤ 3 → k2 ≠ 1 → 0 < d → d ≤ 10 → zyd (s.1 72 5) = (k2, zwd (zrn (zrn (s.1 72 5))) % 7, zwd (zrn (zrn (zrn (s.1 72 5)))) % d, zrn (zrn (zrn (s.1 72 5)))) →
        ∃ s' A2 B2, f_X1_doYear_84 (f_X1_doYear_10 f) (nI z) (nI c) (nI i) (nI d) (nI (zwd (zrn (zrn (s.1 72 5))) % 7)) (nI k2) u = some (nI (zyr n c0 c1 (k + 1) (s.1 72 5) c st).1, s') ∧ CSt s' n (zyr n c0 c1 (k + 1) (s.1 72 5) c st).2 H c0 c1 A2 B2 ∧ zk_k DC s s' ∧ AG A B A2 B2 (k + 1) := by
      intro k2 d hk2 hk1 hd0 hd hy
      have hm : zwd (zrn (zrn (zrn (s.1 72 5)))) % d < d := Nat.mod_lt _ hd0
      obtain ⟨v, A2, B2, a1, a2, a3, a4, a5⟩ := deed7 (hSu.x (j := 5) (v := zrn (u.1 72 5))) (k := k2) (a := zwd (zrn (zrn (s.1 72 5))) % 7) (b := zwd (zrn (zrn (zrn (s.1 72 5)))) % d) (by omega) (by omega) (by omega) (fun h => absurd h hk1) (hab.less (by omega))
      rw [f_X1_doYear_84, draw7 hd0 (by omega), zbd_some, eu]
      rw [eu] at a1 a3 a5
      rw [a1, zbd_some]
      refine fin k2 _ _ _ v A2 B2 hy a2 ((ku.mono (by decide)).tr ((zk_k.rf.i (by decide)).tr a3)) a4 ?_
      rw [a5 5 (by decide), zs_i_v]
    unfold zyd at third fin
    generalize hh : zwd (zrn (s.1 72 5)) % 6 = h at h6 third fin
    rcases (by omega : h < 3 ∨ h = 3 ∨ h = 4 ∨ h = 5) with h3 | rfl | rfl | rfl
    · rw [show h - 2 = 0 by omega, if_pos (by decide), if_neg (fun z => z rfl)]
      exact third 0 7 (by decide) (by decide) (by decide) (by decide) (by rw [if_pos h3])
    · rw [if_neg (fun z => z rfl)]
      obtain ⟨v, a1, a2, a3⟩ := part_7 hSu (b := zwd (zrn (zrn (s.1 72 5))) % 7) (by omega)
      rw [a1, zbd_some]
      exact fin 1 0 _ _ v A B (by rw [if_neg (by decide), if_pos rfl]) a2 ((ku.mono (by decide)).tr (a3.mono (by decide))) AG.rf (by rw [(a3 72 (by decide)).1, eu])
    · rw [if_pos (by decide), if_pos (by decide), if_neg (fun z => z rfl)]
      exact third 2 9 (by decide) (by decide) (by decide) (by decide) (by rw [if_neg (by decide), if_neg (by decide), if_pos rfl])
    · rw [if_pos (by decide), if_pos (by decide), if_pos (by decide)]
      exact third 3 10 (by decide) (by decide) (by decide) (by decide) (by rw [if_neg (by decide), if_neg (by decide), if_neg (by decide)])
def zyc (y : Nat × Nat × Nat × Int32) : Nat := 100 * y.1 + 10 * y.2.1 + y.2.2.1
theorem drawn8 (s : zS) : ∃ s', f_X8_drawn s = some (nI (zyc (zyd (s.1 76 29))), s') ∧ s'.1 76 29 = (zyd (s.1 76 29)).2.2.2 ∧ zk_k [76] s s' ∧ (∀ j, j ≠ 29 → s'.1 76 j = s.1 76 j) := by
  have h6 : zwd (zrn (s.1 76 29)) % 6 < 6 := Nat.mod_lt _ (by decide)
  have kk : ∀ x y, zk_k [76] s (zs_i (zs_i s 76 29 x) 76 29 y) := fun x y => (zk_k.rf.i (by simp)).i (by simp)
  have kk3 : ∀ x y z, zk_k [76] s (zs_i (zs_i (zs_i s 76 29 x) 76 29 y) 76 29 z) := fun x y z => ((zk_k.rf.i (by simp)).i (by simp)).i (by simp)
  rw [f_X8_drawn, draw8 (by decide) (by decide), zbd_some, draw8 (by decide) (by decide), zbd_some, zs_i_v]
  unfold zyd zyc
  generalize hh : zwd (zrn (s.1 76 29)) % 6 = h at h6
  rcases (by omega : h < 3 ∨ h = 3 ∨ h = 4 ∨ h = 5) with h3 | rfl | rfl | rfl
  · rw [if_neg (nI_ge h3 (by decide)), if_pos h3, draw8 (by decide) (by decide), zbd_some, zs_i_v, pk_mul, nI_add]
    exact ⟨_, by congr 3; simp, zs_i_v _ _ _ _, kk3 _ _ _, fun j hj => by rw [zs_i_o _ _ _ _ _ hj, zs_i_o _ _ _ _ _ hj, zs_i_o _ _ _ _ _ hj]⟩
  · rw [if_pos (by decide), if_neg (fun z => z rfl), if_neg (by decide), if_pos rfl, nI_add]
    exact ⟨_, rfl, zs_i_v _ _ _ _, kk _ _, fun j hj => by rw [zs_i_o _ _ _ _ _ hj, zs_i_o _ _ _ _ _ hj]⟩
  · rw [if_pos (by decide), if_pos (by decide), if_neg (fun z => z rfl), if_neg (by decide), if_neg (by decide), if_pos rfl, draw8 (by decide) (by decide), zbd_some, zs_i_v, pk_mul, nI_add, nI_add]
    exact ⟨_, rfl, zs_i_v _ _ _ _, kk3 _ _ _, fun j hj => by rw [zs_i_o _ _ _ _ _ hj, zs_i_o _ _ _ _ _ hj, zs_i_o _ _ _ _ _ hj]⟩
  · rw [if_pos (by decide), if_pos (by decide), if_pos (by decide), if_neg (by decide), if_neg (by decide), if_neg (by decide), draw8 (by decide) (by decide), zbd_some, zs_i_v, pk_mul, nI_add, nI_add]
    exact ⟨_, rfl, zs_i_v _ _ _ _, kk3 _ _ _, fun j hj => by rw [zs_i_o _ _ _ _ _ hj, zs_i_o _ _ _ _ _ hj, zs_i_o _ _ _ _ _ hj]⟩
theorem zyc_ok (x : Int32) : zyc (zyd x) < 400 ∧ ¬ (109 < zyc (zyd x) ∧ zyc (zyd x) < 200) ∧ zyc (zyd x) / 100 = (zyd x).1 ∧ zyc (zyd x) % 100 / 10 = (zyd x).2.1 ∧ zyc (zyd x) % 10 = (zyd x).2.2.1 := by
  have h1 : zwd (zrn (zrn x)) % 7 < 7 := Nat.mod_lt _ (by decide)
  have h2 : zwd (zrn (zrn (zrn x))) % 7 < 7 := Nat.mod_lt _ (by decide)
  have h3 : zwd (zrn (zrn (zrn x))) % 9 < 9 := Nat.mod_lt _ (by decide)
  have h4 : zwd (zrn (zrn (zrn x))) % 10 < 10 := Nat.mod_lt _ (by decide)
  unfold zyc zyd
  split
  · simp only []; omega
  · split
    · simp only []; omega
    · split
      · simp only []; omega
      · simp only []; omega
/-- what a year of the reference may change -/
def RDy (s t : zS) : Prop := (zk_k (76 :: 77 :: MC) s t ∧ t.1 76 5 = s.1 76 5 ∧ t.1 76 13 = s.1 76 13 ∧ t.1 76 14 = s.1 76 14) ∧ (∀ j, (j < 22 ∨ 43 ≤ j) → t.1 77 j = s.1 77 j) ∧ t.1 93 0 = s.1 93 0
theorem RDy.rf {s : zS} : RDy s s := ⟨⟨zk_k.rf, rfl, rfl, rfl⟩, fun _ _ => rfl, rfl⟩
theorem RDy.tr {s t u : zS} (h1 : RDy s t) (h2 : RDy t u) : RDy s u := ⟨⟨h1.1.1.tr h2.1.1, h2.1.2.1.trans h1.1.2.1, h2.1.2.2.1.trans h1.1.2.2.1, h2.1.2.2.2.trans h1.1.2.2.2⟩, fun j hj => (h2.2.1 j hj).trans (h1.2.1 j hj), h2.2.2.trans h1.2.2⟩
theorem RDf.y {s t : zS} (h : RDf s t) : RDy s t := ⟨⟨h.1.1, h.1.2.1, h.1.2.2.1, h.1.2.2.2.1⟩, h.2⟩
theorem year8 {z : Nat} : ∀ (k i f c : Nat) (st : (Nat → Nat) × (Nat → Nat) × (Nat → Option Nat)) (s : zS), i + k = z → k < f → z ≤ 40 → c ≤ i → RSt s n st c0 c1 →
    ∃ s' f', f_X8_year_34 f (nI z) (nI c) (nI i) s = f_X8_year_34 (f' + 1) (nI z) (nI (zyr n c0 c1 k (s.1 76 29) c st).1) (nI z) s' ∧ RSt s' n (zyr n c0 c1 k (s.1 76 29) c st).2 c0 c1 ∧ RDy s s' ∧ (zyr n c0 c1 k (s.1 76 29) c st).1 ≤ z := by
  intro k
  induction k with
  | zero =>
    intro i f c st s hi hf hz hc hR
    obtain ⟨f, rfl⟩ : ∃ r, f = r + 1 := ⟨f - 1, by omega⟩
    have e : i = z := by omega
    subst e
    exact ⟨s, f, rfl, hR, RDy.rf, hc⟩
  | succ k ih =>
    intro i f c st s hi hf hz hc hR
    obtain ⟨f, rfl⟩ : ∃ r, f = r + 1 := ⟨f - 1, by omega⟩
    obtain ⟨s1, a1, a2, a3, a4⟩ := drawn8 s
    obtain ⟨y1, y2, y3, y4, y5⟩ := zyc_ok (s.1 76 29)
    have hR1 : RSt s1 n st c0 c1 := ⟨hR.1.keep a3 (by decide), hR.2.keep (a3 77 (by decide)).1⟩
    have k1 : RDy s s1 := ⟨⟨a3.mono (by simp), a4 5 (by decide), a4 13 (by decide), a4 14 (by decide)⟩, fun j _ => by rw [(a3 77 (by decide)).1], by rw [(a3 93 (by decide)).1]⟩
    obtain ⟨s2, b1, b2, b3, b4⟩ := deed8 hR1 y1 y2
    rw [y3, y4, y5] at b1 b4
    have hle : (zdo n c0 c1 (zyd (s.1 76 29)).1 (zyd (s.1 76 29)).2.1 (zyd (s.1 76 29)).2.2.1 st).1 ≤ 4 := zdo_le _ _ _
    rw [f_X8_year_34, if_neg (nI_ge (by omega) (by omega)), a1, zbd_some, nI_l (by omega), b1, zbd_some, zyr]
    have e29 : s2.1 76 29 = (zyd (s.1 76 29)).2.2.2 := by rw [b3.1.2.2.2.2]; exact a2
    by_cases e : (zdo n c0 c1 (zyd (s.1 76 29)).1 (zyd (s.1 76 29)).2.1 (zyd (s.1 76 29)).2.2.1 st).1 = 0
    · obtain ⟨s3, d1, d2, d3, d4⟩ := b4 e s2 b2
      rw [e, if_pos (show nI 0 = (0 : Int32) from rfl), d1, zbd_some, zb_eq, nI_1, f_X8_year_68, zb_eq, nI_1, if_pos rfl]
      obtain ⟨s', f', z1, z2, z3, z4⟩ := ih (i + 1) f (c + 1) _ s3 (by omega) (by omega) hz (by omega) d2
      have e29' : s3.1 76 29 = (zyd (s.1 76 29)).2.2.2 := by rw [(d4 76 (by decide)).1]; exact e29
      rw [e29'] at z1 z2 z4
      exact ⟨s', f', z1, z2, ((k1.tr b3.y).tr d3.y).tr z3, z4⟩
    · have hst := zdo_no _ _ _ e
      rw [if_neg (nI_ne0 (by omega) (by omega)), f_X8_year_68, zb_eq, nI_1, if_neg e]
      obtain ⟨s', f', z1, z2, z3, z4⟩ := ih (i + 1) f c st s2 (by omega) (by omega) hz (by omega) b2
      rw [e29] at z1 z2 z4
      rw [hst]
      exact ⟨s', f', z1, z2, (k1.tr b3.y).tr z3, z4⟩
end YEAR
