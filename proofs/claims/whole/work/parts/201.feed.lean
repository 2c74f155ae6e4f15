theorem t8_eq {x y : Int32} (h : ∀ i, i < 8 → bt x i = bt y i) : x.toInt8 = y.toInt8 := by
  apply Int8.toBitVec_inj.mp
  show x.toBitVec.signExtend 8 = y.toBitVec.signExtend 8
  apply BitVec.eq_of_getLsbD_eq
  intro i hi
  rw [BitVec.getLsbD_signExtend, BitVec.getLsbD_signExtend]
  simp only [hi, decide_true, Bool.true_and]
  rw [if_pos (by omega), if_pos (by omega)]
  exact h i hi
theorem byte_rel (w : Int32) {i : Nat} (hi : i < 4) : ∃ b : Nat, b < 256 ∧ (zo_shr w (nI 24 - nI 8 * nI i)) &&& nI 255 = nI b ∧ (zo_ush w (nI 24 - nI 8 * nI i)).toInt8.toInt32 = (nI b).toInt8.toInt32 := by
  have e : nI 24 - nI 8 * nI i = nI (24 - 8 * i) := by rw [pk_mul, pk_sub (by omega)]
  rw [e]
  obtain ⟨b, hb, hb2⟩ := pk_andE (zo_shr w (nI (24 - 8 * i))) (m := nI 255) 8 (by decide)
  refine ⟨b, hb, hb2, ?_⟩
  rw [← hb2]
  congr 1
  apply t8_eq
  intro j hj
  show bt (zo_ush w (nI (24 - 8 * i))) j = bt (zo_shr w (nI (24 - 8 * i)) &&& nI 255) j
  have h1 := b_ushr (24 - 8 * i) (by omega) w j
  have h2 := b_sshr (24 - 8 * i) (by omega) w (i := j) (by omega)
  rw [if_pos (by omega)] at h2
  rw [b_and]
  have h3 : bt (nI 255) j = true := by
    have := b_255 j
    rw [show (255 : Int32) = nI 255 from rfl] at this
    rw [this]
    simp; omega
  rw [h3, Bool.and_true]
  exact h1.trans h2.symm
def zby (w : Int32) (i : Nat) : Int32 := (zo_ush w (nI 24 - nI 8 * nI i)).toInt8.toInt32
def zbm (w : Int32) (i : Nat) : Int32 := (zo_shr w (nI 24 - nI 8 * nI i)) &&& nI 255
theorem put_loop {a : Nat} (w : Int32) (ha : a + 4 ≤ 900) : ∀ (k i n : Nat) (s : zS), i + k = 4 → k < n → ∃ s', f_X7_putBytes_2 n (nI a) w (nI i) s = some ((), s') ∧ zk_k [1] s s' ∧ ∀ m, s'.1 1 m = if a + i ≤ m ∧ m < a + 4 then zby w (m - a) else s.1 1 m := by
  intro k
  induction k with
  | zero =>
    intro i n s hi hn
    obtain ⟨n, rfl⟩ : ∃ m, n = m + 1 := ⟨n - 1, by omega⟩
    rw [f_X7_putBytes_2, if_pos (nI_le (by omega) (by omega))]
    exact ⟨s, rfl, zk_k.rf, fun m => by rw [if_neg (by omega)]⟩
  | succ k ih =>
    intro i n s hi hn
    obtain ⟨n, rfl⟩ : ∃ m, n = m + 1 := ⟨n - 1, by omega⟩
    rw [f_X7_putBytes_2, if_neg (nI_ge (by omega) (by omega)), nI_add, if_neg (nI_ge (by omega) (by omega)), wr_1 s (a + i) rfl (by omega), Option.bind_some, zb_eq, show nI i + (1 : Int32) = nI (i + 1) from nI_1 i]
    obtain ⟨s', h1, h2, h3⟩ := ih (i + 1) n (zs_i s 1 (a + i) ((zo_ush w (nI 24 - nI 8 * nI i)).toInt8.toInt32).toInt8.toInt32) (by omega) (by omega)
    refine ⟨s', h1, (zk_k.rf.i (by simp)).tr h2, fun m => ?_⟩
    rw [h3 m]
    by_cases hm : m = a + i
    · subst hm
      rw [if_neg (by omega), if_pos (by omega), zs_i_v, show a + i - a = i by omega, zby, ← vp_nar_byte, pk_vb]
    · rw [zs_i_o _ _ _ _ _ hm]
      by_cases h5 : a + (i + 1) ≤ m ∧ m < a + 4
      · rw [if_pos h5, if_pos (by omega)]
      · rw [if_neg h5, if_neg (by omega)]
theorem put_ok {a : Nat} (w : Int32) (ha : a + 4 ≤ 900) (s : zS) : ∃ s', f_X7_putBytes (nI a) w s = some ((), s') ∧ zk_k [1] s s' ∧ ∀ m, s'.1 1 m = if a ≤ m ∧ m < a + 4 then zby w (m - a) else s.1 1 m := by
  obtain ⟨s', h1, h2, h3⟩ := put_loop w ha 4 0 zFU s (by omega) (by decide)
  exact ⟨s', h1, h2, h3⟩
/-- the word that the k-th byte comes from -/
def zsel (v1 v2 v3 v4 v5 : Int32) (k : Nat) : Int32 := if k < 4 then v1 else if k < 8 then v2 else if k < 12 then v3 else if k < 16 then v4 else v5
theorem feed_loop (v1 v2 v3 v4 v5 : Int32) {t : Nat} (ht : t + 20 ≤ 900) : ∀ (k i n : Nat) (s : zS), i + k = 20 → k < n → s.1 76 5 = nI (t + i) → ∃ s', f_X8_feed_24 n v1 v2 v3 v4 v5 (nI i) s = some (nI (t + 20), s') ∧ zk_k [76, 79] s s' ∧ s'.1 76 5 = nI (t + 20) ∧ (∀ j, j ≠ 5 → s'.1 76 j = s.1 76 j) ∧ ∀ m, s'.1 79 m = if t + i ≤ m ∧ m < t + 20 then zbm (zsel v1 v2 v3 v4 v5 (m - t)) ((m - t) % 4) else s.1 79 m := by
  intro k
  induction k with
  | zero =>
    intro i n s hi hn h5
    obtain ⟨n, rfl⟩ : ∃ m, n = m + 1 := ⟨n - 1, by omega⟩
    have e : i = 20 := by omega
    subst e
    rw [f_X8_feed_24, if_pos (nI_le (by omega) (by omega)), h5]
    exact ⟨s, rfl, zk_k.rf, h5, fun _ _ => rfl, fun m => by rw [if_neg (by omega)]⟩
  | succ k ih =>
    intro i n s hi hn h5
    obtain ⟨n, rfl⟩ : ∃ m, n = m + 1 := ⟨n - 1, by omega⟩
    have key : f_X8_feed_24 (n + 1) v1 v2 v3 v4 v5 (nI i) s = f_X8_feed_77 (f_X8_feed_24 n) v1 v2 v3 v4 v5 (nI i) (zsel v1 v2 v3 v4 v5 i) s := by
      rw [f_X8_feed_24, if_neg (nI_ge (by omega) (by omega)), zsel]
      by_cases c1 : i < 4
      · rw [if_neg (nI_ge c1 (by omega)), if_pos c1]
      · rw [if_pos (nI_le (by omega) (by omega)), if_neg c1]
        by_cases c2 : i < 8
        · rw [if_neg (nI_ge c2 (by omega)), if_pos c2]
        · rw [if_pos (nI_le (by omega) (by omega)), if_neg c2]
          by_cases c3 : i < 12
          · rw [if_neg (nI_ge c3 (by omega)), if_pos c3]
          · rw [if_pos (nI_le (by omega) (by omega)), if_neg c3]
            by_cases c4 : i < 16
            · rw [if_neg (nI_ge c4 (by omega)), if_pos c4]
            · rw [if_pos (nI_le (by omega) (by omega)), if_neg c4]
    rw [key, f_X8_feed_77, h5, wr_79 s (t + i) rfl (by omega), Option.bind_some, zb_eq, zb_eq, zs_i_n _ _ _ _ _ (by decide : (76 : Nat) ≠ 79), h5, nI_1, nI_1, show zo_rem (nI i) (nI 4) = nI (i % 4) from pk_rem (by omega) (by omega) (by omega)]
    obtain ⟨s', g1, g2, g3, g4, g5⟩ := ih (i + 1) n (zs_i (zs_i s 79 (t + i) ((zo_shr (zsel v1 v2 v3 v4 v5 i) (nI 24 - nI 8 * nI (i % 4))) &&& nI 255)) 76 5 (nI (t + i + 1))) (by omega) (by omega) (by rw [zs_i_v]; rfl)
    refine ⟨s', g1, ((zk_k.rf.i (by simp)).i (by simp)).tr g2, g3, fun j hj => (g4 j hj).trans (by rw [zs_i_o _ _ _ _ _ hj, zs_i_n _ _ _ _ _ (by decide)]), fun m => ?_⟩
    rw [g5 m, zs_i_n _ _ _ _ _ (by decide : (79 : Nat) ≠ 76)]
    by_cases hm : m = t + i
    · subst hm
      rw [if_neg (by omega), if_pos (by omega), zs_i_v, show t + i - t = i by omega]
      rfl
    · rw [zs_i_o _ _ _ _ _ hm]
      by_cases h6 : t + (i + 1) ≤ m ∧ m < t + 20
      · rw [if_pos h6, if_pos (by omega)]
      · rw [if_neg h6, if_neg (by omega)]
/-- the tapes of both -/
def JT (s : zS) : Prop := ∃ t, t ≤ 900 ∧ s.1 0 1 = nI t ∧ s.1 76 5 = nI t ∧ ∀ i, i < t → ∃ b, b < 256 ∧ s.1 79 i = nI b ∧ s.1 1 i = (nI b).toInt8.toInt32
theorem op_feed (v1 v2 v3 v4 v5 : Int32) (s : zS) (h : JT s) : ∃ (r : Int32) (s1 s2 : zS), f_X7_feed v1 v2 v3 v4 v5 s = some (r, s1) ∧ f_X8_feed v1 v2 v3 v4 v5 s1 = some (r, s2) ∧ zk_k [0, 1] s s1 ∧ zk_k [76, 79] s1 s2 ∧ (∀ j, j ≠ 0 → j ≠ 5 → s2.1 76 j = s1.1 76 j) ∧ JT s2 := by
  obtain ⟨t, ht, h1, h2, h3⟩ := h
  by_cases hc : t + 20 ≤ 900
  · obtain ⟨s1, a1, b1, c1⟩ := put_ok (a := t) v1 (by omega) s
    have d1 : s1.1 0 1 = nI t := by rw [(b1 0 (by decide)).1]; exact h1
    obtain ⟨s2, a2, b2, c2⟩ := put_ok (a := t + 4) v2 (by omega) s1
    have d2 : s2.1 0 1 = nI t := by rw [(b2 0 (by decide)).1]; exact d1
    obtain ⟨s3, a3, b3, c3⟩ := put_ok (a := t + 8) v3 (by omega) s2
    have d3 : s3.1 0 1 = nI t := by rw [(b3 0 (by decide)).1]; exact d2
    obtain ⟨s4, a4, b4, c4⟩ := put_ok (a := t + 12) v4 (by omega) s3
    have d4 : s4.1 0 1 = nI t := by rw [(b4 0 (by decide)).1]; exact d3
    obtain ⟨s5, a5, b5, c5⟩ := put_ok (a := t + 16) v5 (by omega) s4
    have d5 : s5.1 0 1 = nI t := by rw [(b5 0 (by decide)).1]; exact d4
    have r7 : f_X7_feed v1 v2 v3 v4 v5 s = some (nI (t + 20), zs_i s5 0 1 (nI (t + 20))) := by
      rw [f_X7_feed, h1, nI_add, if_pos (nI_le (by omega) (by omega)), a1, zbd_some, d1, nI_add, a2, zbd_some, d2, nI_add, a3, zbd_some, d3, nI_add, a4, zbd_some, d4, nI_add, a5, zbd_some, d5, nI_add, zb_eq, zs_i_v]
    have k5 : zk_k [0, 1] s (zs_i s5 0 1 (nI (t + 20))) := by
      refine zk_k.i ?_ (by simp)
      exact (((((b1.tr b2).tr b3).tr b4).tr b5).mono (by simp))
    have e76 : (zs_i s5 0 1 (nI (t + 20))).1 76 5 = nI t := by rw [(k5 76 (by decide)).1]; exact h2
    obtain ⟨s6, g1, g2, g3, g4, g5⟩ := feed_loop v1 v2 v3 v4 v5 hc 20 0 zFU (zs_i (zs_i s5 0 1 (nI (t + 20))) 76 0 0) (by omega) (by decide) (by rw [zs_i_o _ _ _ _ _ (by decide)]; exact e76)
    have r8 : f_X8_feed v1 v2 v3 v4 v5 (zs_i s5 0 1 (nI (t + 20))) = some (nI (t + 20), s6) := by
      rw [f_X8_feed, zb_eq, zs_i_o _ _ _ _ _ (by decide : (5 : Nat) ≠ 0), e76, nI_add, if_pos (nI_le (by omega) (by omega))]
      exact g1
    have k6 : zk_k [76, 79] (zs_i s5 0 1 (nI (t + 20))) s6 := (zk_k.rf.i (by simp)).tr g2
    refine ⟨_, _, _, r7, r8, k5, k6, fun j hj0 hj5 => (g4 j hj5).trans (zs_i_o _ _ _ _ _ hj0), t + 20, hc, ?_, g3, fun i hi => ?_⟩
    · rw [(k6 0 (by decide)).1, zs_i_v]
    · have e1 : s6.1 1 i = s5.1 1 i := by rw [(k6 1 (by decide)).1, zs_i_n _ _ _ _ _ (by decide)]
      have e79 : (zs_i (zs_i s5 0 1 (nI (t + 20))) 76 0 0).1 79 = s.1 79 := by rw [zs_i_n _ _ _ _ _ (by decide), (k5 79 (by decide)).1]
      rw [e1, g5 i, e79, c5, c4, c3, c2, c1]
      by_cases hit : i < t
      · rw [if_neg (by omega), if_neg (by omega), if_neg (by omega), if_neg (by omega), if_neg (by omega), if_neg (by omega)]
        exact h3 i hit
      · rw [if_pos (by omega)]
        obtain ⟨k, rfl⟩ : ∃ k, i = t + k := ⟨i - t, by omega⟩
        rw [show t + k - t = k by omega, zsel]
        obtain ⟨b, q1, q2, q3⟩ := byte_rel (zsel v1 v2 v3 v4 v5 k) (i := k % 4) (by omega)
        refine ⟨b, q1, q2, ?_⟩
        rw [← q3, zsel]
        by_cases u1 : k < 4
        · rw [if_neg (by omega), if_neg (by omega), if_neg (by omega), if_neg (by omega), if_pos (by omega), if_pos u1, show k % 4 = k by omega]; rfl
        · by_cases u2 : k < 8
          · rw [if_neg (by omega), if_neg (by omega), if_neg (by omega), if_pos (by omega), if_neg u1, if_pos u2, show k % 4 = t + k - (t + 4) by omega]; rfl
          · by_cases u3 : k < 12
            · rw [if_neg (by omega), if_neg (by omega), if_pos (by omega), if_neg u1, if_neg u2, if_pos u3, show k % 4 = t + k - (t + 8) by omega]; rfl
            · by_cases u4 : k < 16
              · rw [if_neg (by omega), if_pos (by omega), if_neg u1, if_neg u2, if_neg u3, if_pos u4, show k % 4 = t + k - (t + 12) by omega]; rfl
              · rw [if_pos (by omega), if_neg u1, if_neg u2, if_neg u3, if_neg u4, show k % 4 = t + k - (t + 16) by omega]; rfl
  · refine ⟨-5, s, zs_i s 76 0 0, ?_, ?_, zk_k.rf, zk_k.rf.i (by simp), fun j hj0 _ => zs_i_o _ _ _ _ _ hj0, t, ht, h1, ?_, h3⟩
    · rw [f_X7_feed, h1, nI_add, if_neg (nI_ge (by omega) (by omega))]
    · rw [f_X8_feed, zb_eq, zs_i_o _ _ _ _ _ (by decide : (5 : Nat) ≠ 0), h2, nI_add, if_neg (nI_ge (by omega) (by omega))]
    · rw [zs_i_o _ _ _ _ _ (by decide)]; exact h2
