theorem fill7 {v N : Nat} (hd : zk_d v = 0) (hz : zk_n v = N) (hN : N ≤ 1000) (x : Int32) (s : zS) : ∃ s', f_J7_fill_53178 v x s = some ((), s') ∧ zk_k [v] s s' ∧ ∀ j, j < N → s'.1 v j = x := by
  rw [f_J7_fill_53178, if_pos hd, zb_eq, hz]
  obtain ⟨q', t, g1, g2, g3⟩ := zlp (fun q i t => f_J7_fill_53178_5 q v x (nI i) (nI N) t) N (fun i t => zk_k [v] s t ∧ ∀ j, j < i → t.1 v j = x)
    (fun q i t hi h => by
      show ∃ a', f_J7_fill_53178_5 (q + 1) v x (nI i) (nI N) t = f_J7_fill_53178_5 q v x (nI (i + 1)) (nI N) a' ∧ _
      rw [f_J7_fill_53178_5, if_neg (nI_ge hi (by omega)), wr_i hd hz (by omega) rfl hi, Option.bind_some, zb_eq, nI_1]
      refine ⟨_, rfl, h.1.i (by simp), fun j hj => ?_⟩
      by_cases e : j = i
      · subst e; rw [zs_i_v]
      · rw [zs_i_o _ _ _ _ _ e]; exact h.2 j (by omega)) N 0 zFU s (by omega) (by show N < 5000; omega) ⟨zk_k.rf, fun j hj => by omega⟩
  have g1' : f_J7_fill_53178_5 zFU v x 0 (nI N) s = f_J7_fill_53178_5 (q' + 1) v x (nI N) (nI N) t := g1
  rw [g1', f_J7_fill_53178_5, if_pos (nI_le (Nat.le_refl _) (by omega))]
  exact ⟨t, rfl, g2, g3⟩
section CHANCE
variable {n : Nat} {G M H A B : Nat → Nat} {c0 c1 : List Nat} {s : zS}
theorem zwt_7 {S : Nat} (hn : n ≤ 7) (hH : ∀ p, p < n → H p ≤ 10) : zwt H S n ≤ 10000000 := by
  have h1 := zwt_le S hH n (Nat.le_refl _)
  have h2 : 10 ^ n ≤ 10 ^ 7 := Nat.pow_le_pow_right (by decide) hn
  omega
theorem chancesK (h : JK s n G M H c0 c1 A B) (hH : ∀ p, p < n → s.1 6 p = nI (H p) ∧ H p ≤ 10) : ∃ s', f_X0_learnChances s = some ((), s') ∧ JK s' n G M H c0 c1 A B ∧ (∀ p q, p < n → q < n → s'.1 66 (7 * p + q) = nI (ztg n G M H c0 c1 p q (2 ^ n))) ∧ zk_k CC s s' := by
  have hn := h.1.1.1.1
  have h128 := pow_128 hn
  have hag := zaa_le h.1.1.2.1
  unfold f_X0_learnChances
  rw [aall7 h.1.1.2.1, zbd_some]
  by_cases hh : s.1 60 12 = nI (zaa A B)
  · rw [if_neg (fun z => z hh)]
    exact ⟨s, rfl, h, h.2.2.2.hit (by omega) hh, zk_k.rf⟩
  rw [if_pos hh, zb_eq]
  obtain ⟨h1, h2, h3, h4⟩ := h
  have k0 : zk_k [60] s (zs_i s 60 12 (nI (zaa A B))) := zk_k.rf.i (by simp)
  have c5 : JC5 (zs_i s 60 12 (nI (zaa A B))) n G M c0 c1 A B := by
    unfold JC5 JM
    rw [zs_i_o _ _ _ _ _ (by decide), zs_i_n _ _ _ _ _ (by decide), zs_i_n _ _ _ _ _ (by decide)]
    exact h2
  obtain ⟨s1, a1, a2, a3, a4, a5, a6⟩ := learn7 (h1.keep k0 (by decide)) c5
  obtain ⟨s2, b1, b2, b3⟩ := fill7 (v := 66) zd_66 zn_66 (by decide) 0 s1
  rw [a1, zbd_some, b1, zbd_some]
  have k2 : zk_k CC s s2 := (k0.mono (by decide)).tr ((a5.mono (by decide)).tr (b2.mono (by decide)))
  obtain ⟨q', t, g1, g2, g3, g4, g5, g6, g7, g8⟩ := zlp (fun q i t => f_X0_learnChances_33 q (nI i) t) (2 ^ n) (fun i t => JR t n G M c0 c1 A B ∧ JC5 t n G M c0 c1 A B ∧ JM t n G M c0 c1 ∧ JC6 t n G M c0 c1 A B ∧ t.1 60 12 = nI (zaa A B) ∧ zk_k [60, 64, 65, 66] s2 t ∧ ∀ p q, p < n → q < n → t.1 66 (7 * p + q) = nI (ztg n G M H c0 c1 p q i))
    (fun q i t hi hh => by
      obtain ⟨i1, i2, i3, i4, i5, i6, i7⟩ := hh
      show ∃ a', f_X0_learnChances_33 (q + 1) (nI i) t = f_X0_learnChances_33 q (nI (i + 1)) a' ∧ _
      have hH1 : ∀ p, p < n → t.1 6 p = nI (H p) ∧ H p ≤ 10 := fun p hp => by rw [(i6 6 (by decide)).1, (k2 6 (by decide)).1]; exact hH p hp
      have hw7 := zwt_7 (S := i) hn (fun p hp => (hH p hp).2)
      rw [f_X0_learnChances_33, allK i1.1.1, zbd_some, if_neg (nI_nlt (by omega) (by omega)), wt7 i1.1.1 hH1 (by omega), zbd_some]
      by_cases hz : zwt H i n = 0
      · rw [hz, if_pos (by decide), f_X0_learnChances_65, zb_eq, nI_1]
        refine ⟨t, rfl, i1, i2, i3, i4, i5, i6, fun p q hp hq => ?_⟩
        rw [i7 p q hp hq]
        show _ = nI (ztg n G M H c0 c1 p q i + (if zfp n G M c0 c1 i p = some q then zwt H i n else 0))
        rw [hz]
        simp
      · obtain ⟨t2, d1, d2, d3, d4, d5⟩ := find7 (S := i) (wish := 1) (by omega) (by decide) i1.1.1 i3
        obtain ⟨t3, e1, e2, e3⟩ := addt7 (W := zwt H i n) (T := fun p q => ztg n G M H c0 c1 p q i) (i1.1.1.keep d3 (by decide)) d2 (fun p q hp hq => by rw [(d3 66 (by decide)).1]; exact i7 p q hp hq)
        have d1' : f_X0_findPairings (nI i) 1 t = some ((), t2) := d1
        rw [if_neg (nI_nle (by omega) (by omega)), d1', zbd_some, e1, zbd_some, f_X0_learnChances_65, zb_eq, nI_1]
        have k3 : zk_k [60, 64, 65, 66] t t3 := (d3.mono (by simp)).tr (e2.mono (by simp))
        have e60 : t3.1 60 = t2.1 60 := (e2 60 (by decide)).1
        refine ⟨t3, rfl, i1.keep k3 (by decide), ?_, i3.keep k3 (by decide), ?_, ?_, i6.tr k3, fun p q hp hq => e3 p q hp hq⟩
        · unfold JC5 JM
          rw [e60, d5 4 (by decide) (by decide) (by decide), (k3 61 (by decide)).1, (k3 62 (by decide)).1]
          exact i2
        · exact CA.zero (by rw [e60]; exact d4) (by omega)
        · rw [e60, d5 12 (by decide) (by decide) (by decide)]; exact i5) (2 ^ n) 0 zFU s2 (by omega) (by show 2 ^ n < 5000; omega) ⟨a2.keep b2 (by decide), a3.keep b2 (by decide), a4.keep b2 (by decide), by
      unfold JC6 JH7
      rw [(b2 60 (by decide)).1, (b2 65 (by decide)).1, a6 10 (by decide), a6 8 (by decide), (a5 65 (by decide)).1, zs_i_o _ _ _ _ _ (by decide), zs_i_o _ _ _ _ _ (by decide), zs_i_n _ _ _ _ _ (by decide)]
      exact h3, by rw [(b2 60 (by decide)).1, a6 12 (by decide), zs_i_v], zk_k.rf, fun p q hp hq => by rw [b3 _ (by omega)]; rfl⟩
  have g1' : f_X0_learnChances_33 zFU 0 s2 = f_X0_learnChances_33 (q' + 1) (nI (2 ^ n)) t := g1
  rw [g1', f_X0_learnChances_33, allK g2.1.1, zbd_some, if_pos (nI_lt (by have := Nat.two_pow_pos n; omega) (by omega))]
  exact ⟨t, rfl, ⟨g2, g3, g5, CA.now g6 g8⟩, g8, k2.tr (g7.mono (by decide))⟩
theorem likely8 (hZ : ZM s n G M c0 c1) (hH : ∀ p, p < n → s.1 77 (8 + p) = nI (H p) ∧ H p ≤ 10) {p : Nat} (hp : p < n) : ∃ s', f_X8_laysLikely (nI p) s = some ((), s') ∧ (∀ q, q < 7 → s'.1 96 q = nI (ztg n G M H c0 c1 p q (2 ^ n))) ∧ zk_m [81, 82, 83, 84, 85, 86, 87, 88, 89, 91, 92, 96] s s' := by
  have hn := hZ.1
  have h128 := pow_128 hn
  obtain ⟨s1, a1, a2, a3, a4, a5⟩ := lays8 hZ
  rw [f_X8_laysLikely, a1, zbd_some]
  obtain ⟨q1, t, g1, g2, g3⟩ := zlp (fun q i t => f_X8_laysLikely_6 q (nI p) (nI i) t) 7 (fun i t => zk_m [96] s1 t ∧ ∀ j, j < i → t.1 96 j = 0)
    (fun q i t hi h => by
      show ∃ a', f_X8_laysLikely_6 (q + 1) (nI p) (nI i) t = f_X8_laysLikely_6 q (nI p) (nI (i + 1)) a' ∧ _
      rw [f_X8_laysLikely_6, if_neg (nI_ge hi (by omega)), wr_96 t i rfl hi, Option.bind_some, zb_eq, nI_1]
      refine ⟨_, rfl, h.1.i (by simp) (by decide), fun j hj => ?_⟩
      by_cases e : j = i
      · subst e; rw [zs_i_v]
      · rw [zs_i_o _ _ _ _ _ e]; exact h.2 j (by omega)) 7 0 zFU s1 (by omega) (by decide) ⟨zk_m.rf, fun j hj => by omega⟩
  have g1' : f_X8_laysLikely_6 zFU (nI p) 0 s1 = f_X8_laysLikely_6 (q1 + 1) (nI p) (nI 7) t := g1
  rw [g1', f_X8_laysLikely_6, if_pos (nI_le (Nat.le_refl _) (by omega))]
  have kt : zk_m [81, 82, 83, 84, 85, 86, 87, 88, 89, 91, 92, 96] s t := (a5.mono (by simp)).tr (g2.mono (by simp))
  obtain ⟨q2, u, b1, b2, b3⟩ := zlp (fun q i u => f_X8_laysLikely_27 q (nI p) (nI i) u) (2 ^ n) (fun i u => zk_m [91, 92, 96] t u ∧ ∀ q, q < 7 → u.1 96 q = nI (ztg n G M H c0 c1 p q i))
    (fun q i u hi h => by
      show ∃ a', f_X8_laysLikely_27 (q + 1) (nI p) (nI i) u = f_X8_laysLikely_27 q (nI p) (nI (i + 1)) a' ∧ _
      have ku : zk_m [81, 82, 83, 84, 85, 86, 87, 88, 89, 91, 92, 96] s u := kt.tr (h.1.mono (by simp))
      have hZ1 := hZ.keep ku.1 (by decide)
      have hH1 : ∀ v : zS, v.1 77 = s.1 77 → ∀ p, p < n → v.1 77 (8 + p) = nI (H p) ∧ H p ≤ 10 := fun v hv p hp => by rw [hv]; exact hH p hp
      have e88 : u.1 88 = s1.1 88 := by rw [(h.1.1 88 (by decide)).1, (g2.1 88 (by decide)).1]
      have e89 : u.1 89 = s1.1 89 := by rw [(h.1.1 89 (by decide)).1, (g2.1 89 (by decide)).1]
      have e77 : u.1 77 = s.1 77 := (ku.1 77 (by decide)).1
      have hw7 := zwt_7 (S := i) hn (fun p hp => (hH p hp).2)
      rw [f_X8_laysLikely_27, r77_1, hZ1.2.1, Option.bind_some, one_shl n (by omega), if_neg (nI_ge hi (by omega)), in_ok u (by omega) (by omega), zbd_some]
      have skip : (∀ q, q < 7 → (if zfp n G M c0 c1 i p = some q then zwt H i n else 0) = 0) → ∀ v, zk_m [91, 92] u v → ∃ a', f_X8_laysLikely_102 (f_X8_laysLikely_27 q) (nI p) (nI i) v = f_X8_laysLikely_27 q (nI p) (nI (i + 1)) a' ∧ zk_m [91, 92, 96] t a' ∧ ∀ q, q < 7 → a'.1 96 q = nI (ztg n G M H c0 c1 p q (i + 1)) := by
        intro hz v kv
        rw [f_X8_laysLikely_102, zb_eq, nI_1]
        refine ⟨v, rfl, h.1.tr (kv.mono (by simp)), fun q hq => ?_⟩
        rw [(kv.1 96 (by decide)).1, h.2 q hq]
        show _ = nI (ztg n G M H c0 c1 p q i + (if zfp n G M c0 c1 i p = some q then zwt H i n else 0))
        rw [hz q hq]
        rfl
      by_cases hb : i.testBit p = true
      · rw [if_pos hb, if_neg (by decide), wt8 hZ1 (hH1 u e77) (by omega), zbd_some]
        by_cases hz : zwt H i n = 0
        · rw [hz, if_neg (fun z => z rfl)]
          exact skip (fun q hq => by rw [hz]; simp) u zk_m.rf
        · obtain ⟨v, d1, d2, d3⟩ := heldof8 (S := i) (wish := 1) (by omega) (by decide) hZ1 (fun a b ha hb hne => by rw [e88]; exact a3 a b ha hb hne) (fun a b ha hb => by rw [e89]; exact a4 a b ha hb)
          have d1' : f_X8_laysHeldOf (nI i) 1 u = some ((), v) := d1
          rw [if_pos (nI_ne0 (by omega) (by omega)), d1', zbd_some]
          have key : ∃ a', f_X8_laysLikely_82 (f_X8_laysLikely_27 q) (nI p) (nI i) (oI (zfp n G M c0 c1 i p)) v = f_X8_laysLikely_27 q (nI p) (nI (i + 1)) a' ∧ zk_m [91, 92, 96] t a' ∧ ∀ q, q < 7 → a'.1 96 q = nI (ztg n G M H c0 c1 p q (i + 1)) := by
            rw [f_X8_laysLikely_82]
            cases hw : zfp n G M c0 c1 i p with
            | none =>
              rw [show oI none = (-1 : Int32) from rfl, if_pos rfl]
              exact skip (fun q hq => by rw [hw]; simp) v d3
            | some r =>
              have hr := (zfp_v i p r hw).2.1
              have e77v : v.1 77 = s.1 77 := by rw [(d3.1 77 (by decide)).1, e77]
              rw [show oI (some r) = nI r from rfl, if_neg (ne_m1 (by omega)), rd_96 v r rfl (by omega), Option.bind_some, (d3.1 96 (by decide)).1, h.2 r (by omega), wt8 (hZ1.keep d3.1 (by decide)) (hH1 v e77v) (by omega), zbd_some, wr_96 v r rfl (by omega), Option.bind_some, f_X8_laysLikely_102, zb_eq, nI_1]
              refine ⟨_, rfl, (h.1.tr (d3.mono (by simp))).i (by simp) (by decide), fun q hq => ?_⟩
              show _ = nI (ztg n G M H c0 c1 p q i + (if zfp n G M c0 c1 i p = some q then zwt H i n else 0))
              rw [hw]
              by_cases e : q = r
              · subst e; rw [zs_i_v, nI_add, if_pos rfl]
              · rw [zs_i_o _ _ _ _ _ e, (d3.1 96 (by decide)).1, h.2 q hq, if_neg (fun z => e (by cases z; rfl))]
                rfl
          by_cases hl : (zprs n G M c0 c1 i 1).length = 0
          · have e0 : zprs n G M c0 c1 i 1 = [] := List.length_eq_zero_iff.mp hl
            have ez : zfp n G M c0 c1 i p = none := by unfold zfp; rw [e0]; rfl
            rw [ez] at key
            rw [d2.1, hl, if_neg (fun z => z rfl)]
            exact key
          · have ok := zprs_ok (n := n) (G := G) (M := M) (c0 := c0) (c1 := c1) (S := i) (wish := 1)
            have ez : v.1 92 p = oI (zfp n G M c0 c1 i p) := by
              have := d2.2 0 (by omega) p (by omega)
              rw [show 7 * 0 + p = p by omega] at this
              exact this
            rw [d2.1, if_pos (nI_ne0 (by omega) (by omega)), rd_92 v p rfl (by omega), Option.bind_some, ez]
            exact key
      · rw [if_neg hb, if_pos rfl]
        refine skip (fun q hq => if_neg (fun z => hb ((zfp_v i p q z).2.2.2.2))) u zk_m.rf) (2 ^ n) 0 zFU t (by omega) (by show 2 ^ n < 5000; omega) ⟨zk_m.rf, fun q hq => by rw [g3 q hq]; rfl⟩
  have b1' : f_X8_laysLikely_27 zFU (nI p) 0 t = f_X8_laysLikely_27 (q2 + 1) (nI p) (nI (2 ^ n)) u := b1
  have ku : zk_m [81, 82, 83, 84, 85, 86, 87, 88, 89, 91, 92, 96] s u := kt.tr (b2.mono (by simp))
  rw [b1', f_X8_laysLikely_27, r77_1, (hZ.keep ku.1 (by decide)).2.1, Option.bind_some, one_shl n (by omega), if_pos (nI_le (Nat.le_refl _) (by omega))]
  exact ⟨u, rfl, b3, ku⟩
end CHANCE
