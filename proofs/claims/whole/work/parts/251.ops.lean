def C7 : List Nat := 73 :: 74 :: 75 :: DC
def OC : List Nat := 76 :: 77 :: 90 :: (C7 ++ MC)
/-- what the reference may change in a call that changes the society -/
def RDz (s t : zS) : Prop := (zk_k (76 :: 77 :: 90 :: MC) s t ∧ t.1 76 5 = s.1 76 5 ∧ t.1 76 13 = s.1 76 13 ∧ t.1 76 14 = s.1 76 14) ∧ (∀ j, (j < 22 ∨ 254 ≤ j) → t.1 77 j = s.1 77 j) ∧ t.1 93 0 = s.1 93 0
theorem RDz.rf {s : zS} : RDz s s := ⟨⟨zk_k.rf, rfl, rfl, rfl⟩, fun _ _ => rfl, rfl⟩
theorem RDz.tr {s t u : zS} (h1 : RDz s t) (h2 : RDz t u) : RDz s u := ⟨⟨h1.1.1.tr h2.1.1, h2.1.2.1.trans h1.1.2.1, h2.1.2.2.1.trans h1.1.2.2.1, h2.1.2.2.2.trans h1.1.2.2.2⟩, fun j hj => (h2.2.1 j hj).trans (h1.2.1 j hj), h2.2.2.trans h1.2.2⟩
theorem RDy.z {s t : zS} (h : RDy s t) : RDz s t := ⟨⟨h.1.1.mono (by decide), h.1.2⟩, fun j hj => h.2.1 j (by omega), h.2.2⟩
theorem RDz.k9 {s t : zS} (h : zk_k [90] s t) : RDz s t := ⟨⟨h.mono (by decide), by rw [(h 76 (by decide)).1], by rw [(h 76 (by decide)).1], by rw [(h 76 (by decide)).1]⟩, fun j _ => by rw [(h 77 (by decide)).1], by rw [(h 93 (by decide)).1]⟩
theorem RDz.k7 {s t : zS} (h : zk_k [77] s t) (h2 : ∀ j, (j < 22 ∨ 254 ≤ j) → t.1 77 j = s.1 77 j) : RDz s t := ⟨⟨h.mono (by decide), by rw [(h 76 (by decide)).1], by rw [(h 76 (by decide)).1], by rw [(h 76 (by decide)).1]⟩, h2, by rw [(h 93 (by decide)).1]⟩
theorem RDz.f {s : zS} {j : Nat} {v : Int32} (h5 : j ≠ 5) (h13 : j ≠ 13) (h14 : j ≠ 14) : RDz s (zs_i s 76 j v) := ⟨⟨zk_k.rf.i (by simp), zs_i_o _ _ _ _ _ (Ne.symm h5), zs_i_o _ _ _ _ _ (Ne.symm h13), zs_i_o _ _ _ _ _ (Ne.symm h14)⟩, fun j _ => rfl, rfl⟩
theorem RDz.th {s : zS} {v : Int32} : RDz s (zs_i s 76 0 v) := RDz.f (by decide) (by decide) (by decide)
/-- what a call that changes the society may change -/
def OPF (s t : zS) : Prop := (zk_k OC s t ∧ t.1 76 5 = s.1 76 5 ∧ t.1 76 13 = s.1 76 13 ∧ t.1 76 14 = s.1 76 14) ∧ (∀ j, (j < 22 ∨ 254 ≤ j) → t.1 77 j = s.1 77 j) ∧ t.1 93 0 = s.1 93 0
theorem OPF.of {s a b : zS} (hk : zk_k C7 s a) (hz : RDz a b) : OPF s b := ⟨⟨(hk.mono (by decide)).tr (hz.1.1.mono (by decide)), hz.1.2.1.trans (by rw [(hk 76 (by decide)).1]), hz.1.2.2.1.trans (by rw [(hk 76 (by decide)).1]), hz.1.2.2.2.trans (by rw [(hk 76 (by decide)).1])⟩, fun j hj => (hz.2.1 j hj).trans (by rw [(hk 77 (by decide)).1]), hz.2.2.trans (by rw [(hk 93 (by decide)).1])⟩
theorem zRL.cg {a a2 f co : Nat → Int32} {w : Nat} {cs : List Nat} (hw : w < 2) (ha : ∀ j, (j < 22 ∨ 254 ≤ j) → a2 j = a j) (h : zRL a f co w cs) : zRL a2 f co w cs := by
  rcases h with ⟨h1, h2, h3⟩ | ⟨h1, h2, F, C, h3, h4, h5, h6, h7, h8, h9⟩
  · exact Or.inl ⟨by rw [ha _ (by omega)]; exact h1, h2, h3⟩
  · exact Or.inr ⟨by rw [ha _ (by omega)]; exact h1, h2, F, C, h3, h4, by rw [ha _ (by omega)]; exact h5, by rw [ha _ (by omega)]; exact h6, h7, h8, fun i hi => by rw [ha _ (by omega)]; exact h9 i hi⟩
section OPS
variable {n u : Nat} {G M H D A B A2 B2 : Nat → Nat} {c0 c1 : List Nat} {s a b : zS} {st : (Nat → Nat) × (Nat → Nat) × (Nat → Option Nat)}
theorem JNx.W (hN : JNx s n G M H D c0 c1) : ∃ W, KW s n W ∧ RW s n W := by
  obtain ⟨W, h1, h2⟩ := zWV.w hN.2.2.1 hN.1.1
  exact ⟨W, ⟨fun p hp => by rw [(hN.2.1 p hp).2.2.2.2]; exact h1 p hp, h2⟩, ⟨h1, h2⟩⟩
theorem RSt.keep (h : RSt s n st c0 c1) (e : b.1 77 = s.1 77) : RSt b n st c0 c1 := ⟨h.1.set (fun j _ => by rw [e]) (fun p hp => by rw [e]; exact h.1.2.2.1 p hp), h.2.keep e⟩
theorem RR.cg {x x2 y y2 : Nat → Int32} (hn : n ≤ 7) (hx : ∀ j, j < 21 → x2 j = x j) (hy : ∀ j, j < 21 → y2 j = y j) (h : RR x y n) : RR x2 y2 n := by
  refine ⟨fun p hp => ?_, fun p hp => ?_⟩
  · obtain ⟨a1, a2, a3, a4, a5⟩ := h.1 p hp
    rw [hx _ (by omega), hx _ (by omega), hx _ (by omega), hy _ (by omega), hy _ (by omega), hy _ (by omega)]
    exact ⟨a1, a2, a3, a4, a5⟩
  · rw [hy _ (by omega)]
    rcases h.2 p hp with e | ⟨q, q1, q2, q3, q4⟩
    · exact Or.inl e
    · exact Or.inr ⟨q, q1, q2, q3, by rw [hy _ (by omega)]; exact q4⟩
theorem JU2.same (h : JU2 s n u) (hn : n ≤ 7) (h73 : b.1 73 3 = s.1 73 3) (h74 : b.1 74 = s.1 74) (h77 : ∀ j, 43 ≤ j → j < 254 → b.1 77 j = s.1 77 j) : JU2 b n u := by
  have hu := h.1
  exact ⟨h.1, by rw [h77 43 (by omega) (by omega)]; exact h.2.1, h73.trans h.2.2.1, fun r hr => RR.cg hn (fun j hj => by rw [h74]) (fun j hj => h77 _ (by omega) (by omega)) (h.2.2.2 r hr)⟩
/-- both end with the same society -/
theorem fin (hN : JNx s n G M H D c0 c1) (ha : CSt a n st H c0 c1 A2 B2) (hk : zk_k C7 s a) (hb : RSt b n st c0 c1) (hz : RDz a b) : JNx b n st.1 st.2.1 H D c0 c1 ∧ JK b n st.1 st.2.1 H c0 c1 A2 B2 ∧ OPF s b := by
  have hO := OPF.of hk hz
  have eb : ∀ k, k ∉ (76 :: 77 :: 90 :: MC) → b.1 k = a.1 k := fun k h => (hz.1.1 k h).1
  have es : ∀ k, k ∉ C7 → a.1 k = s.1 k := fun k h => (hk k h).1
  have hK := ha.1.1.1.1
  refine ⟨⟨⟨hN.1.1, ?_, ?_, ?_⟩, fun p hp => ⟨⟨(hb.1.2.2.1 p hp).1.1, ?_, (hb.1.2.2.1 p hp).1.2⟩, ⟨(hb.1.2.2.1 p hp).2.1, ?_, (hb.1.2.2.1 p hp).2.2⟩, ⟨?_, ?_, (hN.2.1 p hp).2.2.1.2.2⟩, ⟨?_, ?_, (hN.2.1 p hp).2.2.2.1.2.2⟩, ?_⟩, fun p hp => ?_, ?_, ?_⟩, ?_, hO⟩
  · rw [hO.2.1 1 (by omega)]; exact hN.1.2.1
  · rw [eb 3 (by decide), es 3 (by decide)]; exact hN.1.2.2.1
  · rw [eb 3 (by decide), es 3 (by decide), hO.2.1 0 (by omega)]; exact hN.1.2.2.2
  · rw [eb 4 (by decide)]; exact (hK.2.2.1 p hp).1.1
  · rw [eb 5 (by decide)]; exact (hK.2.2.1 p hp).2.1
  · rw [hO.2.1 _ (by have := hN.1.1; omega)]; exact (hN.2.1 p hp).2.2.1.1
  · rw [eb 6 (by decide), es 6 (by decide)]; exact (hN.2.1 p hp).2.2.1.2.1
  · rw [hO.2.1 _ (by have := hN.1.1; omega)]; exact (hN.2.1 p hp).2.2.2.1.1
  · rw [eb 7 (by decide), es 7 (by decide)]; exact (hN.2.1 p hp).2.2.2.1.2.1
  · rw [eb 8 (by decide), ha.2.1 p hp, hb.2.1 p hp]
  · show b.1 77 (22 + p) = -1 ∨ ∃ q, q < n ∧ q ≠ p ∧ b.1 77 (22 + p) = nI q ∧ b.1 77 (22 + q) = nI p
    rw [hb.2.1 p hp]
    cases hw : st.2.2 p with
    | none => exact Or.inl rfl
    | some q =>
      obtain ⟨h1, h2, h3⟩ := hb.2.2 p q hp hw
      exact Or.inr ⟨q, h1, h2, rfl, by rw [hb.2.1 q h1, h3]; rfl⟩
  · rw [eb 3 (by decide), es 3 (by decide), eb 9 (by decide), es 9 (by decide)]
    exact zRL.cg (by decide) hO.2.1 hN.2.2.2.1
  · rw [eb 3 (by decide), es 3 (by decide), eb 9 (by decide), es 9 (by decide)]
    exact zRL.cg (by decide) hO.2.1 hN.2.2.2.2
  · exact ha.1.keep hz.1.1 (by decide)
/-- what a call that changes the society answers and leaves -/
def OR (f g : zS → Option (Int32 × zS)) (s : zS) (n : Nat) (H D : Nat → Nat) (c0 c1 : List Nat) (A B : Nat → Nat) : Prop := ∃ (r : Int32) (s1 s2 : zS) (G2 M2 : Nat → Nat) (u2 : Nat) (A2 B2 : Nat → Nat), f s = some (r, s1) ∧ g s1 = some (r, s2) ∧ JNx s2 n G2 M2 H D c0 c1 ∧ JK s2 n G2 M2 H c0 c1 A2 B2 ∧ JU2 s2 n u2 ∧ AG A B A2 B2 100 ∧ OPF s s2
theorem OR.go {f g : zS → Option (Int32 × zS)} {r : Int32} (hN : JNx s n G M H D c0 c1) (hU : JU2 s n u) (hf : f s = some (r, a)) (hg : g a = some (r, b)) (ha : CSt a n st H c0 c1 A2 B2) (hk : zk_k (75 :: DC) s a) (hb : RSt b n st c0 c1) (hz : RDy a b) (hG : AG A B A2 B2 100) : OR f g s n H D c0 c1 A B := by
  obtain ⟨h1, h2, h3⟩ := fin hN ha (hk.mono (by decide)) hb hz.z
  refine ⟨r, a, b, st.1, st.2.1, u, A2, B2, hf, hg, h1, h2, hU.same hN.1.1 ?_ ?_ (fun j h1 _ => ?_), hG, h3⟩
  · rw [(hz.1.1 73 (by decide)).1, (hk 73 (by decide)).1]
  · rw [(hz.1.1 74 (by decide)).1, (hk 74 (by decide)).1]
  · rw [hz.2.1 j (by omega), (hk 77 (by decide)).1]
/-- the class keeps what was held -/
theorem kept7 (hU : JU2 s n u) {s1 s3 : zS} (h1 : zk_k [75] s s1) (h3 : zk_k DC s1 s3) (hS : CSt s3 n st H c0 c1 A2 B2) : ∃ a, f_X2_keep s3 = some ((), a) ∧ CSt a n st H c0 c1 A2 B2 ∧ zk_k C7 s a ∧ zk_k [73, 74] s3 a ∧ a.1 73 3 = nI (zup1 u) ∧ ∀ r, r < zup1 u → ∀ j, j < 21 → a.1 74 (21 * r + j) = if r + 1 = zup1 u then s1.1 75 j else if u < 10 then s.1 74 (21 * r + j) else s.1 74 (21 * (r + 1) + j) := by
  obtain ⟨a, a1, a2, a3, a4⟩ := keep_7 (s := s3) hU.1 (by rw [(h3 73 (by decide)).1, (h1 73 (by decide)).1]; exact hU.2.2.1)
  refine ⟨a, a1, ⟨hS.1.w a2 (by decide), hS.2.keep a2 (by decide)⟩, ((h1.mono (by decide)).tr (h3.mono (by decide))).tr (a2.mono (by decide)), a2, a3, fun r hr j hj => ?_⟩
  rw [a4 r hr j hj, (h3 75 (by decide)).1, (h3 74 (by decide)).1, (h1 74 (by decide)).1]
/-- the reference notes what was kept -/
theorem noted8 (hU : JU2 s n u) {t1 t2 : zS} (ha : zk_k C7 s a) (h1 : RDz a t1) (e77 : ∀ j, (j < 22 ∨ 43 ≤ j) → t1.1 77 j = a.1 77 j) (h2 : RDy t1 t2) (hR : RSt t2 n st c0 c1) : ∃ b, f_X8_notes t2 = some ((), b) ∧ RSt b n st c0 c1 ∧ RDz a b ∧ b.1 90 = t1.1 90 ∧ (∀ j, j < 43 → b.1 77 j = t2.1 77 j) ∧ b.1 77 43 = nI (zup1 u) ∧ ∀ r, r < zup1 u → ∀ j, j < 21 → b.1 77 (44 + 21 * r + j) = if r + 1 = zup1 u then t1.1 90 j else if u < 10 then s.1 77 (44 + 21 * r + j) else s.1 77 (44 + 21 * (r + 1) + j) := by
  have hs : a.1 77 = s.1 77 := (ha 77 (by decide)).1
  have e2 : ∀ j, (j < 22 ∨ 43 ≤ j) → t2.1 77 j = s.1 77 j := fun j hj => by rw [h2.2.1 j hj, e77 j hj, hs]
  have n90 : t2.1 90 = t1.1 90 := (h2.1.1 90 (by decide)).1
  obtain ⟨b, b1, b2, b3, b4, b5⟩ := notes_8 (s := t2) hU.1 (by rw [e2 43 (by omega)]; exact hU.2.1)
  have hn := hR.1.1
  refine ⟨b, b1, ⟨hR.1.set (fun j hj => b5 j (by omega)) (fun p hp => ?_), ⟨fun p hp => ?_, hR.2.2⟩⟩, (h1.tr h2.z).tr (RDz.k7 b2 (fun j hj => b5 j (by omega))), ?_, fun j hj => b5 j (by omega), b3, fun r hr j hj => ?_⟩
  · rw [b5 _ (by omega), b5 _ (by omega)]; exact hR.1.2.2.1 p hp
  · rw [b5 _ (by omega)]; exact hR.2.1 p hp
  · rw [(b2 90 (by decide)).1, n90]
  · rw [b4 r hr j hj, n90]
    by_cases e : r + 1 = zup1 u
    · rw [if_pos e, if_pos e]
    · rw [if_neg e, if_neg e]
      by_cases h10 : u < 10
      · rw [if_pos h10, if_pos h10, e2 _ (by omega)]
      · rw [if_neg h10, if_neg h10, e2 _ (by omega)]
theorem zvv.z {W : Nat → Option Nat} (h : zvv n W) {z : Nat → Int32} (hz : ∀ p, p < n → z p = oI (W p)) : zWV z n := fun p hp => by
  rw [hz p hp]
  cases hw : W p with
  | none => exact Or.inl rfl
  | some q =>
    obtain ⟨h1, h2, h3⟩ := h p q hp hw
    exact Or.inr ⟨q, h1, h2, rfl, by rw [hz q h1, h3]; rfl⟩
/-- what was held is what was kept -/
theorem RRs (hZ : ZK s n G M c0 c1) {W : Nat → Option Nat} (hW : KW s n W) {s1 t0 t1 : zS} (h : ∀ p, p < 7 → s1.1 75 (3 * p) = s.1 8 p ∧ s1.1 75 (3 * p + 1) = s.1 4 p ∧ s1.1 75 (3 * p + 2) = s.1 5 p) (hR : RSt t0 n (G, M, W) c0 c1) (h90 : ∀ k, k < 21 → t1.1 90 k = t0.1 77 (22 + k)) : RR (fun j => s1.1 75 j) (fun j => t1.1 90 j) n := by
  have hn := hZ.1
  refine ⟨fun p hp => ?_, zvv.z hW.2 (fun p hp => by rw [h90 p (by omega)]; exact hR.2.1 p hp)⟩
  obtain ⟨h1, h2, h3⟩ := h p (by omega)
  obtain ⟨y1, y2⟩ := hZ.2.2.1 p hp
  obtain ⟨z1, z2⟩ := hR.1.2.2.1 p hp
  simp only [h90 p (by omega), h90 (7 + p) (by omega), h90 (14 + p) (by omega), show 22 + (7 + p) = 29 + p by omega, show 22 + (14 + p) = 36 + p by omega]
  exact ⟨by rw [h1, hW.1 p hp]; exact (hR.2.1 p hp).symm, by rw [h2, y1.1, z1.1], by rw [h3, y2.1, z2.1], ⟨_, z1.2, z1.1⟩, ⟨_, z2.2, z2.1⟩⟩
/-- a deed that both did, and kept -/
theorem OR.did {f g : zS → Option (Int32 × zS)} {r : Int32} {s1 s3 : zS} {W : Nat → Option Nat} (hN : JNx s n G M H D c0 c1) (hW : KW s n W) (hU : JU2 s n u) (p2 : zk_k [75] s s1) (p3 : ∀ p, p < 7 → s1.1 75 (3 * p) = s.1 8 p ∧ s1.1 75 (3 * p + 1) = s.1 4 p ∧ s1.1 75 (3 * p + 2) = s.1 5 p) (h3 : zk_k DC s1 s3) (hS : CSt s3 n st H c0 c1 A2 B2) (hG : AG A B A2 B2 100)
    (hf : ∀ a, f_X2_keep s3 = some ((), a) → zk_k [73, 74] s3 a → f s = some (r, a))
    (hg : ∀ a, zk_k C7 s a → ∃ t0 t1 t2, RDy a t0 ∧ RSt t0 n (G, M, W) c0 c1 ∧ f_X8_keeps t0 = some ((), t1) ∧ RDy t1 t2 ∧ RSt t2 n st c0 c1 ∧ ∀ b, f_X8_notes t2 = some ((), b) → b.1 90 = t1.1 90 → (∀ j, j < 43 → b.1 77 j = t2.1 77 j) → g a = some (r, b)) : OR f g s n H D c0 c1 A B := by
  obtain ⟨a, b1, b2, b3, b4, b5, b6⟩ := kept7 hU p2 h3 hS
  obtain ⟨t0, t1, t2, c1', c2, c3, c4, c5, c6⟩ := hg a b3
  obtain ⟨t1x, g1, g2, g3⟩ := keeps_8 t0
  rw [c3] at g1
  have et : t1 = t1x := by injection g1 with g1; injection g1
  subst et
  obtain ⟨b, d1, d2, d3, d4, d5, d6, d7⟩ := noted8 hU b3 (c1'.z.tr (RDz.k9 g2)) (fun j hj => by rw [(g2 77 (by decide)).1]; exact c1'.2.1 j hj) c4 c5
  obtain ⟨h1, h2, h3⟩ := fin hN b2 b3 d2 d3
  have e74 : b.1 74 = a.1 74 := (d3.1.1 74 (by decide)).1
  exact ⟨r, a, b, st.1, st.2.1, zup1 u, A2, B2, hf a b1 b4, c6 b d1 d4 d5, h1, h2, hU.up (fun r hr j hj => by rw [e74]; exact b6 r hr j hj) d7 hN.1.1 d6 (by rw [(d3.1.1 73 (by decide)).1]; exact b5) (RRs hN.k hW p3 c2 g3), hG, h3⟩
theorem RDy.th {s : zS} {v : Int32} : RDy s (zs_i s 76 0 v) := ⟨⟨zk_k.rf.i (by simp), zs_i_o _ _ _ _ _ (by decide), zs_i_o _ _ _ _ _ (by decide), zs_i_o _ _ _ _ _ (by decide)⟩, fun _ _ => rfl, rfl⟩
theorem q_engage (hN : JNx s n G M H D c0 c1) (hK : JK s n G M H c0 c1 A B) (hU : JU2 s n u) (x y : Int32) : OR (f_X7_engage x y) (f_X8_engage x y) s n H D c0 c1 A B := by
  obtain ⟨W, hW, hV⟩ := hN.W
  have hn := hN.1.1
  have hR : RSt s n (G, M, W) c0 c1 := ⟨hN.m, hV⟩
  obtain ⟨s1, p1, p2, p3⟩ := hold_7 s
  have hS1 : CSt s1 n (G, M, W) H c0 c1 A B := ⟨hK.w p2 (by decide), hW.keep p2 (by decide)⟩
  have k0 : zk_k (75 :: DC) s (zs_i s1 72 3 0) := (p2.mono (by decide)).i (by decide)
  have hN2 : JNx (zs_i s1 72 3 0) n G M H D c0 c1 := (hN.keep p2 (by decide)).keep (zk_k.rf.i (S := [72]) (by simp)) (by decide)
  rcases two_cases hN2 x y with ⟨h1, h2⟩ | ⟨p, q, hp, hq, hpq, rfl, rfl, -, -⟩
  · refine OR.go (r := -11) (a := zs_i s1 72 3 0) (b := zs_i (zs_i s1 72 3 0) 76 0 0) hN hU ?_ ?_ hS1.x k0 (hR.keep ?_) RDy.th AG.rf
    · rw [f_X7_engage, p1, zbd_some, f_X1_tryEngage, zb_eq, h1, zbd_some, if_neg (fun z => z rfl), zbd_some, if_neg (by decide)]; rfl
    · rw [f_X8_engage, zb_eq, f_X8_whyEngage, h2 _ hN2.th, zbd_some, if_neg (fun z => z rfl), zbd_some, if_neg (by decide)]; rfl
    · exact (k0 77 (by decide)).1
  · obtain ⟨s3, a1, a2, a3, a4, a5⟩ := engage_7 hS1 (a := p) (b := q) (by omega) (by omega)
    have ez : zdo n c0 c1 0 p q (G, M, W) = if zwe G M c0 c1 W p q = 0 then (0, G, M, zen W p q) else (zwe G M c0 c1 W p q, G, M, W) := by
      unfold zdo
      rw [if_pos rfl, if_pos ⟨hp, hq, hpq⟩]
    rw [ez] at a1 a2 a4
    by_cases e : zwe G M c0 c1 W p q = 0
    · rw [if_pos e] at a1 a2 a4
      refine OR.did (r := nI (zlc W p + zlc (zlv W p) q)) hN hW hU p2 p3 (a3.mono (by decide)) a2 AG.rf (fun a f1 f2 => ?_) (fun a f1 => ?_)
      · rw [f_X7_engage, p1, zbd_some, a1, zbd_some, if_pos (show nI 0 = (0 : Int32) from rfl), f1, zbd_some, (f2 72 (by decide)).1, a4 rfl]
      · have hRa : RSt (zs_i a 76 0 0) n (G, M, W) c0 c1 := hR.keep (f1 77 (by decide)).1
        obtain ⟨t0, d1, d2, d3, d4⟩ := why8 hRa.1 hRa.2 hp hq hpq
        obtain ⟨t1, g1, g2, g3⟩ := keeps_8 t0
        have r1 : RSt t1 n (G, M, W) c0 c1 := RSt.keep ⟨d2, d3⟩ (g2 77 (by decide)).1
        obtain ⟨t2, i1, i2, i3, i4, i5⟩ := eng_8 r1.1 r1.2 hp hq hpq
        refine ⟨t0, t1, t2, RDy.th.tr d4.y, ⟨d2, d3⟩, g1, (RDf.w i4 (fun j hj => i5 j (by omega))).y, ⟨i2, i3⟩, fun b j1 _ _ => ?_⟩
        rw [f_X8_engage, zb_eq, d1, zbd_some, e, if_pos (show nI 0 = (0 : Int32) from rfl), g1, zbd_some, i1, zbd_some, j1, zbd_some]
    · rw [if_neg e] at a1 a2
      have hlt : zwe G M c0 c1 W p q ≤ 4 := by unfold zwe; split <;> (try split) <;> (try split) <;> omega
      have hRa : RSt (zs_i s3 76 0 0) n (G, M, W) c0 c1 := hR.keep (by rw [zs_i_n _ _ _ _ _ (by decide), (a3 77 (by decide)).1, (p2 77 (by decide)).1])
      obtain ⟨t0, d1, d2, d3, d4⟩ := why8 hRa.1 hRa.2 hp hq hpq
      refine OR.go (r := -10 - nI (zwe G M c0 c1 W p q)) (a := s3) (b := t0) hN hU ?_ ?_ a2 ((p2.mono (by decide)).tr (a3.mono (by decide))) ⟨d2, d3⟩ (RDy.th.tr d4.y) AG.rf
      · rw [f_X7_engage, p1, zbd_some, a1, zbd_some, if_neg (nI_ne0 (by omega) (by omega))]
      · have hne : ¬ nI (zwe G M c0 c1 W p q) = (0 : Int32) := nI_ne0 (by omega) (by omega)
        rw [f_X8_engage, zb_eq, d1, zbd_some, if_neg hne]
theorem q_part (hN : JNx s n G M H D c0 c1) (hK : JK s n G M H c0 c1 A B) (hU : JU2 s n u) (x : Int32) : OR (f_X7_part x) (f_X8_part x) s n H D c0 c1 A B := by
  obtain ⟨W, hW, hV⟩ := hN.W
  have hn := hN.1.1
  have hR : RSt s n (G, M, W) c0 c1 := ⟨hN.m, hV⟩
  obtain ⟨s1, p1, p2, p3⟩ := hold_7 s
  have hS1 : CSt s1 n (G, M, W) H c0 c1 A B := ⟨hK.w p2 (by decide), hW.keep p2 (by decide)⟩
  have hN1 : JNx s1 n G M H D c0 c1 := hN.keep p2 (by decide)
  rcases per_cases hN1 x with ⟨h1, h2⟩ | ⟨p, hp, rfl⟩
  · refine OR.go (r := -11) (a := s1) (b := zs_i s1 76 0 0) hN hU ?_ ?_ hS1 (p2.mono (by decide)) (hR.keep (p2 77 (by decide)).1) RDy.th AG.rf
    · rw [f_X7_part, p1, zbd_some, h1, zbd_some, if_pos rfl, f_X7_part_31, f_X1_tryPart, h1, zbd_some, if_neg (fun z => z rfl), zbd_some, if_neg (by decide)]; rfl
    · rw [f_X8_part, zb_eq, f_X8_whyPart, h2 _ hN1.th, zbd_some, if_neg (fun z => z rfl), f_X8_whyPart_31, zbd_some, if_neg (by decide)]; rfl
  · have ex : f_X5_has_3 (nI p) s1 = some (1, s1) := has_in hN1 hp
    obtain ⟨s3, a1, a2, a3⟩ := part_7 hS1 (b := p) (by omega)
    have ez : zdo n c0 c1 1 0 p (G, M, W) = if W p = none then (2, G, M, W) else (0, G, M, zlv W p) := by
      unfold zdo
      rw [if_neg (by decide), if_pos rfl, if_pos hp]
    have w8 := fun (t : zS) (h : RSt t n (G, M, W) c0 c1) => whypart8 h (b := p) (by omega)
    rw [ez] at a1 a2 w8
    have ef : f_X7_part (nI p) s = f_X7_part_31 (nI p) (oI (W p)) s1 := by
      rw [f_X7_part, p1, zbd_some, ex, zbd_some, if_neg (by decide), rd_8 s1 p rfl (by omega), Option.bind_some, hS1.2.1 p hp]
    by_cases e : W p = none
    · rw [if_pos e] at a1 a2 w8
      refine OR.go (r := -10 - nI 2) (a := s3) (b := zs_i s3 76 0 0) hN hU ?_ ?_ a2 ((p2.mono (by decide)).tr (a3.mono (by decide))) (hR.keep ?_) RDy.th AG.rf
      · rw [ef, f_X7_part_31, a1, zbd_some, if_neg (show ¬ nI 2 = (0 : Int32) by decide)]
      · rw [f_X8_part, zb_eq, w8 _ (hR.keep (by rw [zs_i_n _ _ _ _ _ (by decide), (a3 77 (by decide)).1, (p2 77 (by decide)).1])), zbd_some, if_neg (show ¬ nI 2 = (0 : Int32) by decide)]
      · rw [zs_i_n _ _ _ _ _ (by decide), (a3 77 (by decide)).1, (p2 77 (by decide)).1]
    · rw [if_neg e] at a1 a2 w8
      refine OR.did (r := oI (W p)) hN hW hU p2 p3 (a3.mono (by decide)) a2 AG.rf (fun a f1 f2 => ?_) (fun a f1 => ?_)
      · rw [ef, f_X7_part_31, a1, zbd_some, if_pos (show nI 0 = (0 : Int32) from rfl), f1, zbd_some]
      · have hRa : RSt (zs_i a 76 0 0) n (G, M, W) c0 c1 := hR.keep (f1 77 (by decide)).1
        obtain ⟨t1, g1, g2, g3⟩ := keeps_8 (zs_i a 76 0 0)
        have r1 : RSt t1 n (G, M, W) c0 c1 := RSt.keep hRa (g2 77 (by decide)).1
        obtain ⟨t2, i1, i2, i3, i4⟩ := leave8 r1.1 r1.2 hp
        refine ⟨_, t1, t2, RDy.th, hRa, g1, (RDf.w i3 (fun j hj => i4 j (by omega))).y, ⟨r1.1.w i4, i2⟩, fun b j1 j2 _ => ?_⟩
        rw [f_X8_part, zb_eq, w8 _ hRa, zbd_some, if_pos (show nI 0 = (0 : Int32) from rfl), g1, zbd_some, i1, zbd_some, j1, zbd_some, rd_90 b p rfl (by omega), Option.bind_some, j2, g3 p (by omega), hRa.2.1 p hp]
end OPS
