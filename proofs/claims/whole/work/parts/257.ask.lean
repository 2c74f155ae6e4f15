section ASK
variable {n u : Nat} {G M H D A B : Nat → Nat} {c0 c1 : List Nat} {s a b : zS} {W : Nat → Option Nat}
theorem tray_in (hY : JY s) {t : Nat} (ht : t < 4) : (∀ v : zS, (v.1 69 = s.1 69 → f_X6_isMissing (nI t) v = some (1, v)) ∧ (v.1 97 = s.1 97 → f_X8_noTray (nI t) v = some (-6, v))) ∨ ∃ z, z ≤ 40 ∧ s.1 98 t = nI z ∧ (∀ i, i < z → s.2 71 (40 * t + i) = s.2 99 (40 * t + i)) ∧ ∀ v : zS, (v.1 69 = s.1 69 → f_X6_isMissing (nI t) v = some (0, v) ∧ (v.1 70 = s.1 70 → f_X6_sizeOf (nI t) v = some (nI z, v) ∧ (v.2 71 = s.2 71 → ∀ i, i < z → f_X6_numberAt (nI t) (nI i) v = some (s.2 71 (40 * t + i), v)))) ∧ (v.1 97 = s.1 97 → f_X8_noTray (nI t) v = some (0, v)) := by
  rcases tray_all hY (nI t) with h | ⟨t2, ht2, e, -, h⟩
  · have h1 := (h s).1
    rw [one_in s ht] at h1
    exact absurd h1 (by simp)
  · have e2 : t = t2 := Classical.byContradiction fun z => ne_of_nI z (by omega) (by omega) e
    subst e2
    exact h
theorem marks_both (hN : JNx s n G M H D c0 c1) (hK : JK s n G M H c0 c1 A B) (hY : JY s) (hab : AB A B 11) (x y : Int32) :
    (f_X6_isOne x s = some (0, s) ∧ ∀ v, f_X8_noAnswers x y v = some (-2, v)) ∨
    (f_X6_isOne x s = some (1, s) ∧ f_X5_has_3 y s = some (0, s) ∧ ∀ v, JNx v n G M H D c0 c1 → f_X8_noAnswers x y v = some (-2, v)) ∨
    ∃ p, p < n ∧ y = nI p ∧ f_X6_isOne x s = some (1, s) ∧ f_X5_has_3 y s = some (1, s) ∧
      ((∃ r a, ¬ 0 ≤ r ∧ ¬ r = (0 : Int32) ∧ f_X7_marksBy x y s = some (r, a) ∧ zk_k [63] s a ∧ f_X8_noAnswers x y (zs_i a 76 0 0) = some (r, zs_i a 76 0 0)) ∨
       (∃ m a B2, m < 1024 ∧ f_X7_marksBy x y s = some (nI m, a) ∧ JK a n G M H c0 c1 A B2 ∧ zk_k (5 :: 11 :: 63 :: BC) s a ∧ AG A B A B2 11 ∧
         ∀ v, zk_k C7 s v → f_X8_noAnswers x y (zs_i v 76 0 0) = some (0, zs_i v 76 0 0) ∧ ∃ t, f_X8_marksOf x y (zs_i v 76 0 0) = some (nI m, t) ∧ t.1 77 = v.1 77 ∧ ZC8 t n G ∧ RDy v t)) := by
  have hn := hN.1.1
  rcases wi_c (x := x) (m := 3) (y := (3 : Int64)) (by decide) rfl with ⟨w1, w2⟩ | ⟨t0, ht0, rfl, w1⟩
  · refine Or.inl ⟨?_, fun v => ?_⟩
    · rcases w2 with h | ⟨-, h⟩
      · exact one_neg s h
      · exact one_big s h
    · rw [f_X8_noAnswers, w1, zbd_some, if_pos rfl]; rfl
  refine Or.inr ?_
  have ht : t0 < 4 := by omega
  rcases per_cases hN y with ⟨h1, h2⟩ | ⟨p, hp, rfl⟩
  · refine Or.inl ⟨one_in s ht, h1, fun v hv => ?_⟩
    rw [f_X8_noAnswers, w1, zbd_some, if_neg (by decide), h2 v hv, zbd_some, if_neg (fun z => z rfl)]; rfl
  refine Or.inr ⟨p, hp, rfl, one_in s ht, has_in hN hp, ?_⟩
  have e0 : ∀ v, zk_k C7 s v → f_X8_noAnswers (nI t0) (nI p) (zs_i v 76 0 0) = zbd (f_X8_noTray (nI t0) (zs_i v 76 0 0)) fun r11 s12 => if r11 = 0 then ((zr_i s12 98 (nI t0)).bind fun x13 => (zr_i s12 77 (1 : Int32)).bind fun x14 => if x13 = x14 then (f_X8_noAnswers_57 zFU (nI t0) (0 : Int32) s12) else some ((-4 : Int32), s12)) else some (r11, s12) := fun v hv => by
    have hZv : ZM (zs_i v 76 0 0) n G M c0 c1 := hN.m.set (fun j _ => by rw [zs_i_n _ _ _ _ _ (by decide), (hv 77 (by decide)).1]) (fun q hq => by rw [zs_i_n _ _ _ _ _ (by decide), (hv 77 (by decide)).1]; exact hN.m.2.2.1 q hq)
    rw [f_X8_noAnswers, w1, zbd_some, if_neg (by decide), perM hZv (by omega), if_pos hp, zbd_some, if_pos (by decide)]
  have eq97 : ∀ v : zS, zk_k C7 s v → (zs_i v 76 0 0).1 97 = s.1 97 := fun v hv => by rw [zs_i_n _ _ _ _ _ (by decide), (hv 97 (by decide)).1]
  rcases tray_in hY ht with h2 | ⟨z, hz, h98, hX, h2⟩
  · refine Or.inl ⟨-6, s, by decide, by decide, ?_, zk_k.rf, ?_⟩
    · rw [f_X7_marksBy, (h2 s).1 rfl, zbd_some, if_neg (by decide)]
    · rw [e0 s zk_k.rf, (h2 _).2 (eq97 s zk_k.rf), zbd_some, if_neg (by decide)]
  · have e1 : ∀ v, zk_k C7 s v → f_X8_noAnswers (nI t0) (nI p) (zs_i v 76 0 0) = if nI z = nI n then f_X8_noAnswers_57 zFU (nI t0) 0 (zs_i v 76 0 0) else some (-4, zs_i v 76 0 0) := fun v hv => by
      have q98 : (zs_i v 76 0 0).1 98 t0 = nI z := by rw [zs_i_n _ _ _ _ _ (by decide), (hv 98 (by decide)).1, h98]
      have q77 : (zs_i v 76 0 0).1 77 1 = nI n := by rw [zs_i_n _ _ _ _ _ (by decide), (hv 77 (by decide)).1]; exact hN.1.2.1
      rw [e0 v hv, (h2 _).2 (eq97 v hv), zbd_some, if_pos rfl, rd_98 _ t0 rfl ht, Option.bind_some, q98, r77_1, Option.bind_some, q77]
    have e2 : f_X7_marksBy (nI t0) (nI p) s = if nI z = nI n then zbd (f_X7_readAnswers (nI t0) s) (fun r14 s15 => if ¬ r14 = 0 then ((zr_i s15 5 (nI p)).bind fun x16 => f_X7_marksBy_62 zFU (nI p) x16 (0 : Int32) (0 : Int32) s15) else some ((-3 : Int32), s15)) else some (-4, s) := by
      rw [f_X7_marksBy, ((h2 s).1 rfl).1, zbd_some, if_pos rfl, (((h2 s).1 rfl).2 rfl).1, zbd_some, hN.1.2.2.1]
    by_cases ez : z = n
    · subst ez
      rw [if_pos rfl] at e2
      obtain ⟨s1, k1, rd⟩ := read7 (X := fun j => s.2 71 (40 * t0 + j)) hN.k (fun v hv j hj => (((h2 v).1 (hv 69 (by decide)).1).2 (hv 70 (by decide)).1).2 (hv 71 (by decide)).2 j hj)
      have r8 : ∀ v, zk_k C7 s v → (f_X8_noAnswers (nI t0) (nI p) (zs_i v 76 0 0) = some (0, zs_i v 76 0 0) ∧ AOK z (fun j => s.2 71 (40 * t0 + j))) ∨ (f_X8_noAnswers (nI t0) (nI p) (zs_i v 76 0 0) = some (-3, zs_i v 76 0 0) ∧ ¬ AOK z (fun j => s.2 71 (40 * t0 + j))) := fun v hv => by
        rw [e1 v hv, if_pos rfl]
        have e77 : (zs_i v 76 0 0).1 77 = s.1 77 := by rw [zs_i_n _ _ _ _ _ (by decide), (hv 77 (by decide)).1]
        exact read8 (t := zs_i v 76 0 0) (G := G) (M := M) (c0 := c0) (c1 := c1) ht (hN.m.set (fun j _ => by rw [e77]) (fun q hq => by rw [e77]; exact hN.m.2.2.1 q hq)) (fun j hj => by
          have e : (zs_i v 76 0 0).2 = v.2 := rfl
          rw [e, (hv 99 (by decide)).2]; exact (hX j hj).symm) z 0 zFU (by omega) (show z < 5000 by omega) (fun _ hv => by omega)
      rcases rd with ⟨d1, d2, d3⟩ | ⟨d1, d2⟩
      · refine Or.inr ?_
        obtain ⟨W, w2, w3⟩ := d2.w hn
        have hK1 : JK s1 z G M H c0 c1 A B := hK.keep k1 (by decide)
        obtain ⟨a, B2, g1, g2, g3, g4⟩ := marks7 (W := W) hK1 hp (fun q hq => by rw [d3 q hq]; exact w3 q hq) w2 hab
        have e5 : s1.1 5 p = nI (M p) := (hK1.1.1.1.2.2.1 p hp).2.1
        have hlt := zmk_lt (n := z) (G := G) (M := M) (c0 := c0) (c1 := c1) (W := W) (p := p) 10
        refine ⟨zmk z G M c0 c1 W p 10, a, B2, hlt, ?_, g2, (k1.mono (by decide)).tr (g3.mono (by decide)), g4, fun v hv => ?_⟩
        · rw [e2, d1, zbd_some, if_pos (by decide), rd_5 s1 p rfl (by omega), Option.bind_some, e5, g1]
        · have r := (r8 v hv).resolve_right (fun zz => zz.2 d2)
          have e77 : (zs_i v 76 0 0).1 77 = s.1 77 := by rw [zs_i_n _ _ _ _ _ (by decide), (hv 77 (by decide)).1]
          have hZv : ZM (zs_i v 76 0 0) z G M c0 c1 := hN.m.set (fun j _ => by rw [e77]) (fun q hq => by rw [e77]; exact hN.m.2.2.1 q hq)
          obtain ⟨v1, a1, a2, a3⟩ := laysC8 hZv
          have hZ1 : ZM v1 z G M c0 c1 := hZv.keep a3.1 (by decide)
          obtain ⟨v2, b1, b2, b3⟩ := copy91 (p := p) (x := nI (M p)) (X := fun j => s.2 71 (40 * t0 + j)) ht hZ1 (fun j hj => by
            have e : (zs_i v 76 0 0).2 = v.2 := rfl
            rw [(a3.1 99 (by decide)).2, e, (hv 99 (by decide)).2]; exact (hX j hj).symm)
          have hZ2 : ZM v2 z G M c0 c1 := hZ1.keep b2 (by decide)
          obtain ⟨t, i1, i2, i3, i4⟩ := marks8 (W := W) hZ2 (fun a b ha hb => by rw [(b2 87 (by decide)).1]; exact a2 a b ha hb) hp (fun q hq => by rw [b3 q hq]; exact w3 q hq) w2
          have v77 : v2.1 77 = v.1 77 := by rw [(b2 77 (by decide)).1, (a3.1 77 (by decide)).1, zs_i_n _ _ _ _ _ (by decide)]
          have kb : zk_m [91] v1 v2 := ⟨b2.mono (by decide), by rw [(b2 76 (by decide)).1], by rw [(b2 76 (by decide)).1], by rw [(b2 76 (by decide)).1], by rw [(b2 76 (by decide)).1]⟩
          have kk : zk_m (77 :: MC) (zs_i v 76 0 0) t := ((a3.mono (by decide)).tr (kb.mono (by decide))).tr (i4.mono (by decide))
          have e77' : t.1 77 = v.1 77 := i2.trans v77
          refine ⟨r.1, t, ?_, e77', i3, RDy.th.tr ⟨⟨kk.1, kk.2.1, kk.2.2.1, kk.2.2.2.1⟩, fun j _ => by rw [e77', zs_i_n _ _ _ _ _ (by decide)], ?_⟩⟩
          · rw [f_X8_marksOf, rd_77 _ (36 + p) (nI_add _ _) (by omega), Option.bind_some, (hZv.2.2.1 p hp).2.1, a1, zbd_some, b1, i1]
          · rw [(i4.1 93 (by decide)).1, (b2 93 (by decide)).1, (a3.1 93 (by decide)).1]
      · refine Or.inl ⟨-3, s1, by decide, by decide, ?_, k1, ?_⟩
        · rw [e2, d1, zbd_some, if_neg (fun zz => zz rfl)]
        · exact ((r8 s1 (k1.mono (by decide))).resolve_left (fun zz => d2 zz.2)).1
    · have hne : ¬ nI z = nI n := ne_of_nI ez (by omega) (by omega)
      refine Or.inl ⟨-4, s, by decide, by decide, ?_, zk_k.rf, ?_⟩
      · rw [e2, if_neg hne]
      · rw [e1 s zk_k.rf, if_neg hne]
theorem q_marks (hN : JNx s n G M H D c0 c1) (hK : JK s n G M H c0 c1 A B) (hU : JU2 s n u) (hY : JY s) (hab : AB A B 100) (x y : Int32) : OR (f_X7_marks x y) (f_X8_marks x y) s n H D c0 c1 A B := by
  obtain ⟨W, hW, hV⟩ := hN.W
  have hR : RSt s n (G, M, W) c0 c1 := ⟨hN.m, hV⟩
  have no : ∀ r a, zk_k [63] s a → f_X7_marks x y s = some (r, a) → f_X8_marks x y a = some (r, zs_i a 76 0 0) → OR (f_X7_marks x y) (f_X8_marks x y) s n H D c0 c1 A B := fun r a hk h1 h2 => OR.go (r := r) (a := a) (b := zs_i a 76 0 0) (st := (G, M, W)) hN hU h1 h2 ⟨hK.keep hk (by decide), hW.keep hk (by decide)⟩ (hk.mono (by decide)) (hR.keep (by rw [zs_i_n _ _ _ _ _ (by decide), (hk 77 (by decide)).1])) RDy.th AG.rf
  rcases marks_both hN hK hY (hab.less (by decide)) x y with ⟨h1, h2⟩ | ⟨h1, h2, h3⟩ | ⟨p, hp, rfl, h1, h2, ⟨r, a, h3, h3', h4, h5, h6⟩ | ⟨m, a, B2, h3, h4, h5, h6, h7, h8⟩⟩
  · refine no (-2) s zk_k.rf ?_ ?_
    · rw [f_X7_marks, h1, zbd_some, if_pos rfl]; rfl
    · rw [f_X8_marks, zb_eq, h2, zbd_some, if_neg (by decide)]; rfl
  · refine no (-2) s zk_k.rf ?_ ?_
    · rw [f_X7_marks, h1, zbd_some, if_neg (by decide), h2, zbd_some, if_pos rfl]; rfl
    · rw [f_X8_marks, zb_eq, h3 _ hN.th, zbd_some, if_neg (by decide)]; rfl
  · refine no r a h5 ?_ ?_
    · rw [f_X7_marks, h1, zbd_some, if_neg (by decide), h2, zbd_some, if_neg (by decide), h4, zbd_some]; rfl
    · rw [f_X8_marks, zb_eq, h6, zbd_some, if_neg h3']; rfl
  · obtain ⟨g1, t, g2, g3, g4, g5⟩ := h8 a (h6.mono (by decide))
    refine OR.go (r := nI m) (a := a) (b := t) (st := (G, M, W)) hN hU ?_ ?_ ⟨h5, hW.keep h6 (by decide)⟩ (h6.mono (by decide)) (hR.keep (by rw [g3, (h6 77 (by decide)).1])) g5 (h7.up (by decide))
    · rw [f_X7_marks, h1, zbd_some, if_neg (by decide), h2, zbd_some, if_neg (by decide), h4, zbd_some]; rfl
    · rw [f_X8_marks, zb_eq, g1, zbd_some, if_pos rfl, g2, zbd_some]; rfl
/-- who is best asked -/
def zmin (G M : Nat → Nat) (c1 : List Nat) (m p i : Nat) : Int32 := if nI (zpc 10 m) - nI (zwb G M c1 m p i 10) < nI (zwb G M c1 m p i 10) then nI (zpc 10 m) - nI (zwb G M c1 m p i 10) else nI (zwb G M c1 m p i 10)
def zak (G M : Nat → Nat) (c1 : List Nat) (m p : Nat) : Nat → Int32 × Int32
  | 0 => (-1, -1)
  | i + 1 => if i = p then zak G M c1 m p i else if zmin G M c1 m p i ≤ (zak G M c1 m p i).2 then zak G M c1 m p i else (nI i, zmin G M c1 m p i)
theorem zak_s (G M : Nat → Nat) (c1 : List Nat) (m p i : Nat) : zak G M c1 m p (i + 1) = if i = p then zak G M c1 m p i else if zmin G M c1 m p i ≤ (zak G M c1 m p i).2 then zak G M c1 m p i else (nI i, zmin G M c1 m p i) := rfl
theorem ask7 {p m : Nat} (hK : JK s n G M H c0 c1 A B) (hp : p < n) (hm : m < 1024) (hc : 0 < zpc 10 m) (hab : AB A B 77) : ∃ s' B2, f_X7_ask_53 zFU (nI p) (nI m) (nI (zpc 10 m)) (-1) (-1) 0 s = some ((zak G M c1 m p n).1, s') ∧ JK s' n G M H c0 c1 A B2 ∧ zk_k (5 :: 11 :: RC) s s' ∧ AG A B A B2 77 := by
  have hn := hK.1.1.1.1
  have hz := zpc_le 10 m
  have hpos : ¬ nI (zpc 10 m) ≤ (0 : Int32) := nI_nle hc (by omega)
  obtain ⟨q', t, g1, B1, g2, g3, g4⟩ := zlp (fun f i t => f_X7_ask_53 f (nI p) (nI m) (nI (zpc 10 m)) (zak G M c1 m p i).1 (zak G M c1 m p i).2 (nI i) t) n (fun i t => ∃ B1, JK t n G M H c0 c1 A B1 ∧ zk_k (5 :: 11 :: RC) s t ∧ AG A B A B1 (11 * i))
    (fun f i t hi h => by
      obtain ⟨B1, h1, h2, h3⟩ := h
      show ∃ a', f_X7_ask_53 (f + 1) (nI p) (nI m) (nI (zpc 10 m)) (zak G M c1 m p i).1 (zak G M c1 m p i).2 (nI i) t = f_X7_ask_53 f (nI p) (nI m) (nI (zpc 10 m)) (zak G M c1 m p (i + 1)).1 (zak G M c1 m p (i + 1)).2 (nI (i + 1)) a' ∧ _
      rw [f_X7_ask_53, h1.1.1.1.2.1, if_neg (nI_ge hi (by omega)), if_neg hpos, zak_s]
      by_cases e : i = p
      · refine ⟨t, ?_, B1, h1, h2, h3.up (by omega)⟩
        rw [if_pos e, if_neg (fun z => z (by rw [e])), f_X7_ask_116, zb_eq, nI_1]
      · obtain ⟨s3, B3, a1, a2, a3, a4⟩ := would7 h1 hp hi (fun z => e z.symm) hm ((hab.less (show 11 * i + 11 ≤ 77 by omega)).go h3)
        refine ⟨s3, ?_, B3, a2, h2.tr a3, (h3.tr a4).up (by omega)⟩
        have em : f_J9_min_7cf53 (nI (zwb G M c1 m p i 10)) (nI (zpc 10 m) - nI (zwb G M c1 m p i 10)) s3 = some (zmin G M c1 m p i, s3) := by
          unfold f_J9_min_7cf53 f_J9_min_7cf53_10 zmin
          split <;> rfl
        rw [if_neg e, if_pos (ne_of_nI e (by omega) (by omega)), a1, zbd_some, em, zbd_some]
        by_cases e2 : zmin G M c1 m p i ≤ (zak G M c1 m p i).2
        · rw [if_pos e2, if_pos e2, f_X7_ask_116, zb_eq, nI_1]
        · rw [if_neg e2, if_neg e2, f_X7_ask_116, zb_eq, nI_1]) n 0 zFU s (by omega) (by show n < 5000; omega) ⟨B, hK, zk_k.rf, AG.rf⟩
  have g1' : f_X7_ask_53 zFU (nI p) (nI m) (nI (zpc 10 m)) (-1) (-1) 0 s = f_X7_ask_53 (q' + 1) (nI p) (nI m) (nI (zpc 10 m)) (zak G M c1 m p n).1 (zak G M c1 m p n).2 (nI n) t := g1
  refine ⟨t, B1, ?_, g2, g3, g4.up (by omega)⟩
  rw [g1', f_X7_ask_53, g2.1.1.1.2.1, if_pos (nI_le (Nat.le_refl _) (by omega))]; rfl
theorem ask8 {p m : Nat} (hZ : ZM s n G M c0 c1) (hC : ZC8 s n G) (hp : p < n) (hm : m < 1024) (hm0 : 0 < m) : ∃ s', f_X8_ask_35 zFU (nI p) (nI m) (-1) (-1) 0 s = some ((zak G M c1 m p n).1, s') ∧ s'.1 77 = s.1 77 ∧ zk_m [77, 85, 86] s s' := by
  have hn := hZ.1
  obtain ⟨q', t, g1, g2, g3, g4⟩ := zlp (fun f i t => f_X8_ask_35 f (nI p) (nI m) (zak G M c1 m p i).1 (zak G M c1 m p i).2 (nI i) t) n (fun i t => ZC8 t n G ∧ t.1 77 = s.1 77 ∧ zk_m [77, 85, 86] s t)
    (fun f i t hi h => by
      obtain ⟨h1, h2, h3⟩ := h
      have hZt : ZM t n G M c0 c1 := hZ.set (fun j _ => by rw [h2]) (fun q hq => by rw [h2]; exact hZ.2.2.1 q hq)
      show ∃ a', f_X8_ask_35 (f + 1) (nI p) (nI m) (zak G M c1 m p i).1 (zak G M c1 m p i).2 (nI i) t = f_X8_ask_35 f (nI p) (nI m) (zak G M c1 m p (i + 1)).1 (zak G M c1 m p (i + 1)).2 (nI (i + 1)) a' ∧ _
      rw [f_X8_ask_35, r77_1, Option.bind_some, hZt.2.1, if_neg (nI_ge hi (by omega)), if_neg (nI_ne0 hm0 (by omega)), zak_s]
      by_cases e : i = p
      · refine ⟨t, ?_, h1, h2, h3⟩
        rw [if_pos e, if_neg (fun z => z (by rw [e])), f_X8_ask_117, zb_eq, nI_1]
      · obtain ⟨s3, a1, a2, a3, a4⟩ := would8 hZt h1 hp hi hm
        refine ⟨s3, ?_, a3, a2.trans h2, h3.tr a4⟩
        have fin : ∀ w0 : Int32, w0 = zmin G M c1 m p i → f_X8_ask_97 (f_X8_ask_35 f) (nI p) (nI m) (zak G M c1 m p i).1 (zak G M c1 m p i).2 (nI i) w0 s3 = f_X8_ask_35 f (nI p) (nI m) (if zmin G M c1 m p i ≤ (zak G M c1 m p i).2 then zak G M c1 m p i else (nI i, zmin G M c1 m p i)).1 (if zmin G M c1 m p i ≤ (zak G M c1 m p i).2 then zak G M c1 m p i else (nI i, zmin G M c1 m p i)).2 (nI (i + 1)) s3 := fun w0 hw => by
          subst hw
          unfold f_X8_ask_97
          by_cases e2 : zmin G M c1 m p i ≤ (zak G M c1 m p i).2
          · rw [if_neg (Int32.not_lt.mpr e2), if_pos e2, f_X8_ask_117, zb_eq, nI_1]
          · rw [if_pos (Int32.not_le.mp e2), if_neg e2, f_X8_ask_117, zb_eq, nI_1]
        rw [if_neg e, if_pos (ne_of_nI e (by omega) (by omega)), a1, zbd_some, bits_1k hm, zbd_some]
        by_cases e3 : nI (zpc 10 m) - nI (zwb G M c1 m p i 10) ≤ nI (zwb G M c1 m p i 10)
        · rw [if_pos e3, bits_1k hm, zbd_some]
          refine fin _ ?_
          unfold zmin
          by_cases e4 : nI (zpc 10 m) - nI (zwb G M c1 m p i 10) < nI (zwb G M c1 m p i 10)
          · rw [if_pos e4]
          · rw [if_neg e4]
            exact Int32.le_antisymm e3 (Int32.not_lt.mp e4)
        · rw [if_neg e3]
          refine fin _ ?_
          unfold zmin
          rw [if_neg (fun z => e3 (Int32.le_of_lt z))]) n 0 zFU s (by omega) (by show n < 5000; omega) ⟨hC, rfl, zk_m.rf⟩
  have g1' : f_X8_ask_35 zFU (nI p) (nI m) (-1) (-1) 0 s = f_X8_ask_35 (q' + 1) (nI p) (nI m) (zak G M c1 m p n).1 (zak G M c1 m p n).2 (nI n) t := g1
  refine ⟨t, ?_, g3, g4⟩
  rw [g1', f_X8_ask_35, r77_1, Option.bind_some, g3, hZ.2.1, if_pos (nI_le (Nat.le_refl _) (by omega))]; rfl
set_option maxRecDepth 40000 in
theorem zpc_pos2 : ∀ m, m < 1024 → (0 < zpc 10 m ↔ 0 < m) := by decide +kernel
theorem q_ask (hN : JNx s n G M H D c0 c1) (hK : JK s n G M H c0 c1 A B) (hU : JU2 s n u) (hY : JY s) (hab : AB A B 100) (x y : Int32) : OR (f_X7_ask x y) (f_X8_ask x y) s n H D c0 c1 A B := by
  obtain ⟨W, hW, hV⟩ := hN.W
  have hn := hN.1.1
  have hR : RSt s n (G, M, W) c0 c1 := ⟨hN.m, hV⟩
  have no : ∀ r a, zk_k [63] s a → f_X7_ask x y s = some (r, a) → f_X8_ask x y a = some (r, zs_i a 76 0 0) → OR (f_X7_ask x y) (f_X8_ask x y) s n H D c0 c1 A B := fun r a hk h1 h2 => OR.go (r := r) (a := a) (b := zs_i a 76 0 0) (st := (G, M, W)) hN hU h1 h2 ⟨hK.keep hk (by decide), hW.keep hk (by decide)⟩ (hk.mono (by decide)) (hR.keep (by rw [zs_i_n _ _ _ _ _ (by decide), (hk 77 (by decide)).1])) RDy.th AG.rf
  rcases marks_both hN hK hY (hab.less (by decide)) x y with ⟨h1, h2⟩ | ⟨h1, h2, h3⟩ | ⟨p, hp, rfl, h1, h2, ⟨r, a, h3, h3', h4, h5, h6⟩ | ⟨m, a, B2, h3, h4, h5, h6, h7, h8⟩⟩
  · refine no (-2) s zk_k.rf ?_ ?_
    · rw [f_X7_ask, h1, zbd_some, if_pos rfl]; rfl
    · rw [f_X8_ask, zb_eq, h2, zbd_some, if_neg (by decide)]
  · refine no (-2) s zk_k.rf ?_ ?_
    · rw [f_X7_ask, h1, zbd_some, if_neg (by decide), h2, zbd_some, if_neg (fun z => z rfl)]; rfl
    · rw [f_X8_ask, zb_eq, h3 _ hN.th, zbd_some, if_neg (by decide)]
  · refine no r a h5 ?_ ?_
    · rw [f_X7_ask, h1, zbd_some, if_neg (by decide), h2, zbd_some, if_pos (by decide), h4, zbd_some, if_neg h3]
    · rw [f_X8_ask, zb_eq, h6, zbd_some, if_neg h3']
  · have e7 : f_X7_ask x (nI p) s = f_X7_ask_53 zFU (nI p) (nI m) (nI (zpc 10 m)) (-1) (-1) 0 a := by
      rw [f_X7_ask, h1, zbd_some, if_neg (by decide), h2, zbd_some, if_pos (by decide), h4, zbd_some, if_pos (show (0 : Int32) ≤ nI m from nI_le (a := 0) (Nat.zero_le _) (by omega)), bc_1k a h3, zbd_some]
    by_cases hm0 : 0 < m
    · have hc := (zpc_pos2 m h3).mpr hm0
      obtain ⟨a2, B3, g1, g2, g3, g4⟩ := ask7 h5 hp h3 hc ((hab.less (show 11 + 77 ≤ 100 by decide)).go h7)
      have k2 : zk_k (75 :: DC) s a2 := (h6.mono (by decide)).tr (g3.mono (by decide))
      obtain ⟨i1, t, i2, i3, i4, i5⟩ := h8 a2 (k2.mono (by decide))
      have e77 : t.1 77 = s.1 77 := by rw [i3, (k2 77 (by decide)).1]
      have hZt : ZM t n G M c0 c1 := hN.m.set (fun j _ => by rw [e77]) (fun q hq => by rw [e77]; exact hN.m.2.2.1 q hq)
      obtain ⟨t2, j1, j2, j3⟩ := ask8 hZt i4 hp h3 hm0
      refine OR.go (r := (zak G M c1 m p n).1) (a := a2) (b := t2) (st := (G, M, W)) hN hU ?_ ?_ ⟨g2, (hW.keep h6 (by decide)).keep g3 (by decide)⟩ k2 (hR.keep (by rw [j2, e77])) (i5.tr ⟨⟨j3.1.mono (by decide), j3.2.1, j3.2.2.1, j3.2.2.2.1⟩, fun j _ => by rw [j2], by rw [(j3.1 93 (by decide)).1]⟩) ((h7.tr g4).up (by decide))
      · rw [e7, g1]
      · rw [f_X8_ask, zb_eq, i1, zbd_some, if_pos rfl, i2, zbd_some, j1]
    · have em : m = 0 := by omega
      subst em
      obtain ⟨i1, t, i2, i3, i4, i5⟩ := h8 a (h6.mono (by decide))
      have e77 : t.1 77 = s.1 77 := by rw [i3, (h6 77 (by decide)).1]
      refine OR.go (r := -1) (a := a) (b := t) (st := (G, M, W)) hN hU ?_ ?_ ⟨h5, hW.keep h6 (by decide)⟩ (h6.mono (by decide)) (hR.keep e77) i5 (h7.up (by decide))
      · rw [e7]
        show f_X7_ask_53 (4999 + 1) (nI p) (nI 0) (nI 0) (-1) (-1) (nI 0) a = _
        rw [f_X7_ask_53, h5.1.1.1.2.1, if_neg (nI_ge (by omega) (by omega)), if_pos (by decide)]; rfl
      · rw [f_X8_ask, zb_eq, i1, zbd_some, if_pos rfl, i2, zbd_some]
        show f_X8_ask_35 (4999 + 1) (nI p) (nI 0) (-1) (-1) (nI 0) t = _
        rw [f_X8_ask_35, r77_1, Option.bind_some, e77, hN.1.2.1, if_neg (nI_ge (by omega) (by omega)), if_pos (by decide)]; rfl
end ASK
