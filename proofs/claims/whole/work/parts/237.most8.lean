theorem zmat_len (mt : Nat → Nat → Bool) : ∀ (l : List (Nat × Nat)) (m : Nat), zmat mt l m → l.length ≤ m := by
  intro l
  induction l with
  | nil => intro m _; exact Nat.zero_le _
  | cons x l ihl =>
    intro m hz
    obtain ⟨⟨z1, z2, z3⟩, ⟨z4, z5, z6⟩, z7⟩ := hz
    have y1 := ihl _ z7
    have y2 := cl_lt z1 z4
    have y3 : cl (cl m x.1) x.2 ≤ cl m x.1 := Nat.and_le_left
    simp only [List.length_cons]
    omega
section MOST8
variable {n : Nat} {G M H D A B : Nat → Nat} {c0 c1 : List Nat}
theorem most8_one (kb : Int32 → zS → Option (Int32 × zS)) {t : zS} {m : Nat} {T : Nat → Nat} (hZ : ZM t n G M c0 c1) (hTt : ZT8 t n G M c0 c1) (h0 : 0 < m) (hm : m < 2 ^ n) (hT : TAB (zmt G M c0 c1) (t.1 93) m T) : ∃ t' T', f_X8_most_25 kb zFU (nI m) 0 t = kb (nI (m + 1)) t' ∧ zk_k [93] t t' ∧ TAB (zmt G M c0 c1) (t'.1 93) (m + 1) T' := by
  have hn := hZ.1
  have h128 := pow_128 hn
  obtain ⟨hT0, hTb, hT1, hT2⟩ := hT
  obtain ⟨v, hv, hlow⟩ := pk_least (fun j => j < n ∧ m.testBit j = true) (bit_of h0 hm)
  have hlow' : ∀ j, j < v → m.testBit j = false := fun j hj => by
    cases hb : m.testBit j with
    | false => rfl
    | true => exact absurd ⟨by omega, hb⟩ (hlow j hj)
  obtain ⟨q1, u, d1, -⟩ := zlp (fun q i (_ : Unit) => f_X8_most_25 kb q (nI m) (nI i) t) v (fun _ _ => True) (fun q i _ hi _ => by
    refine ⟨(), ?_, trivial⟩
    show f_X8_most_25 kb (q + 1) (nI m) (nI i) t = f_X8_most_25 kb q (nI m) (nI (i + 1)) t
    rw [f_X8_most_25, in_ok t (by omega) (by omega), zbd_some, hlow' i hi, if_neg (by decide), zb_eq, nI_1]) v 0 zFU () (by omega) (by show v < 5000; omega) trivial
  have d1' : f_X8_most_25 kb zFU (nI m) 0 t = f_X8_most_25 kb (q1 + 1) (nI m) (nI v) t := d1
  have hc1 := cl_lt (by omega) hv.2
  rw [d1', f_X8_most_25, in_ok t (by omega) (by omega), zbd_some, if_pos hv.2, if_pos (by decide), zb_eq, clr7 v (by omega) m (by omega)]
  show ∃ t' T', (zr_i t 93 (nI (cl m v))).bind _ = _ ∧ _
  rw [rd_93 t (cl m v) rfl (by omega), Option.bind_some, hT1 _ hc1, wr_93 t m rfl (by omega), Option.bind_some, zb_eq, nI_1]
  have hb128 : ∀ q, 1 + T (cl (cl m v) q) ≤ 128 := fun q => by have := hTb (cl (cl m v) q); omega
  obtain ⟨q2, t2, e1, e2, e3, e4⟩ := zlp (fun q j t2 => f_X8_most_65 kb q (nI m) (nI v) (nI (cl m v)) (nI j) t2) n (fun j t2 => zk_k [93] t t2 ∧ (∀ i, i ≠ m → t2.1 93 i = t.1 93 i) ∧ (v + 1 ≤ j → t2.1 93 m = nI (zfd (zmx (fun q => (cl m v).testBit q && zmt G M c0 c1 v q) (fun q => 1 + T (cl (cl m v) q))) (j - (v + 1)) (v + 1) (T (cl m v)))) ∧ v + 1 ≤ j)
    (fun q j t2 hj h => by
      obtain ⟨i1, i2, i3, i4⟩ := h
      have i3 := i3 i4
      show ∃ a', f_X8_most_65 kb (q + 1) (nI m) (nI v) (nI (cl m v)) (nI j) t2 = f_X8_most_65 kb q (nI m) (nI v) (nI (cl m v)) (nI (j + 1)) a' ∧ _
      have hZ2 := hZ.keep i1 (by decide)
      have hT2' : ZT8 t2 n G M c0 c1 := fun a b ha hb => by rw [(i1 89 (by decide)).1]; exact hTt a b ha hb
      generalize hc : zfd (zmx (fun q => (cl m v).testBit q && zmt G M c0 c1 v q) (fun q => 1 + T (cl (cl m v) q))) (j - (v + 1)) (v + 1) (T (cl m v)) = c at i3
      have hcb : c ≤ 128 := by rw [← hc]; exact zmx_b _ _ hb128 _ _ _ (by have := hTb (cl m v); omega)
      have hstep : zfd (zmx (fun q => (cl m v).testBit q && zmt G M c0 c1 v q) (fun q => 1 + T (cl (cl m v) q))) (j + 1 - (v + 1)) (v + 1) (T (cl m v)) = zmx (fun q => (cl m v).testBit q && zmt G M c0 c1 v q) (fun q => 1 + T (cl (cl m v) q)) j c := by
        rw [show j + 1 - (v + 1) = (j - (v + 1)) + 1 by omega, zfd_last, hc, show v + 1 + (j - (v + 1)) = j by omega]
      have same : zmx (fun q => (cl m v).testBit q && zmt G M c0 c1 v q) (fun q => 1 + T (cl (cl m v) q)) j c = c → ∃ a', f_X8_most_141 kb (f_X8_most_65 kb q) (nI m) (nI v) (nI (cl m v)) (nI j) t2 = f_X8_most_65 kb q (nI m) (nI v) (nI (cl m v)) (nI (j + 1)) a' ∧ (zk_k [93] t a' ∧ (∀ i, i ≠ m → a'.1 93 i = t.1 93 i) ∧ (v + 1 ≤ j + 1 → a'.1 93 m = nI (zfd (zmx (fun q => (cl m v).testBit q && zmt G M c0 c1 v q) (fun q => 1 + T (cl (cl m v) q))) (j + 1 - (v + 1)) (v + 1) (T (cl m v)))) ∧ v + 1 ≤ j + 1) := by
        intro hs
        rw [f_X8_most_141, zb_eq, nI_1]
        exact ⟨t2, rfl, i1, i2, fun _ => by rw [hstep, hs]; exact i3, by omega⟩
      rw [f_X8_most_65, r77_1, hZ2.2.1, Option.bind_some, if_neg (nI_ge hj (by omega)), in_ok t2 (by omega) (by omega), zbd_some]
      by_cases hb : (cl m v).testBit j = true
      · have hc2 := cl_lt (show j < 7 by omega) hb
        rw [if_pos hb, if_neg (by decide), match8 hZ2 hT2' hv.1 hj, zbd_some]
        by_cases hmt : zmt G M c0 c1 v j = true
        · have hTc := hTb (cl (cl m v) j)
          rw [if_pos hmt, if_neg (by decide), clr7 j (by omega) _ (by omega)]
          show ∃ a', (zr_i t2 93 (nI (cl (cl m v) j))).bind _ = _ ∧ _
          rw [rd_93 t2 (cl (cl m v) j) rfl (by omega), Option.bind_some, i2 _ (by omega), hT1 _ (by omega), rd_93 t2 m rfl (by omega), Option.bind_some, i3, show (1 : Int32) + nI (T (cl (cl m v) j)) = nI (1 + T (cl (cl m v) j)) from nI_add 1 _]
          by_cases hl : c < 1 + T (cl (cl m v) j)
          · rw [if_neg (nI_ge hl (by omega))]
            show ∃ a', (zr_i t2 93 (nI (cl (cl m v) j))).bind _ = _ ∧ _
            rw [rd_93 t2 (cl (cl m v) j) rfl (by omega), Option.bind_some, i2 _ (by omega), hT1 _ (by omega), show (1 : Int32) + nI (T (cl (cl m v) j)) = nI (1 + T (cl (cl m v) j)) from nI_add 1 _, wr_93 t2 m rfl (by omega), Option.bind_some, f_X8_most_141, zb_eq, nI_1]
            refine ⟨_, rfl, i1.i (by simp), fun i hi => by rw [zs_i_o _ _ _ _ _ hi]; exact i2 i hi, fun _ => ?_, by omega⟩
            rw [zs_i_v, hstep]
            unfold zmx
            rw [if_pos (by simp [hb, hmt, hl])]
          · rw [if_pos (nI_le (by omega) (by omega))]
            refine same ?_
            unfold zmx
            rw [if_neg (by simp [hl])]
        · rw [if_neg hmt, if_pos rfl]
          refine same ?_
          unfold zmx
          rw [if_neg (by simp [hmt])]
      · rw [if_neg hb, if_pos rfl]
        refine same ?_
        unfold zmx
        rw [if_neg (by simp [hb])]) (n - (v + 1)) (v + 1) zFU (zs_i t 93 m (nI (T (cl m v)))) (by omega) (by show n - (v + 1) < 5000; omega) ⟨zk_k.rf.i (by simp), fun i hi => zs_i_o _ _ _ _ _ hi, fun _ => by rw [zs_i_v, Nat.sub_self]; rfl, Nat.le_refl _⟩
  have e1' : f_X8_most_65 kb zFU (nI m) (nI v) (nI (cl m v)) (nI (v + 1)) (zs_i t 93 m (nI (T (cl m v)))) = f_X8_most_65 kb (q2 + 1) (nI m) (nI v) (nI (cl m v)) (nI n) t2 := e1
  show ∃ t' T', f_X8_most_65 kb zFU (nI m) (nI v) (nI (cl m v)) (nI (v + 1)) (zs_i t 93 m (nI (T (cl m v)))) = _ ∧ _
  rw [e1', f_X8_most_65, r77_1, (hZ.keep e2 (by decide)).2.1, Option.bind_some, if_pos (nI_le (Nat.le_refl _) (by omega)), zb_eq, nI_1]
  have e5 := e4.1 e4.2
  have ok := zmx_ok (fun q => (cl m v).testBit q && zmt G M c0 c1 v q) (fun q => 1 + T (cl (cl m v) q)) (n - (v + 1)) (v + 1) (T (cl m v))
  generalize hX : zfd (zmx (fun q => (cl m v).testBit q && zmt G M c0 c1 v q) (fun q => 1 + T (cl (cl m v) q))) (n - (v + 1)) (v + 1) (T (cl m v)) = X at e5 ok
  have ene : cl m v ≠ m := by omega
  refine ⟨t2, fun j => if j = m then X else T j, rfl, e2, ?_, fun j => ?_, fun j hj => ?_, fun j g0 hj => ?_⟩
  · show (if 0 = m then X else T 0) = 0
    rw [if_neg (by omega)]; exact hT0
  · show (if j = m then X else T j) ≤ 127
    split
    · rcases ok.2.2 with e | ⟨q, q1, q2, q3, q4⟩
      · rw [e]; exact hTb _
      · simp only [Bool.and_eq_true] at q3
        have hc2 := cl_lt (show q < 7 by omega) q3.1
        obtain ⟨l, hl1, hl2⟩ := (rec_ok (zmt_sym G M c0 c1) (N := m) hT0 hT2 (cl (cl m v) q) _ (Nat.le_refl _) (by omega) (by omega)).1
        have := zmat_len _ l _ hl1
        omega
    · exact hTb j
  · by_cases e : j = m
    · subst e; rw [e5]; simp
    · rw [e3 j e, hT1 j (by omega)]; simp [e]
  · by_cases e : j = m
    · subst e
      refine ⟨v, by omega, hv.2, by simp only [ene, if_false, if_true]; exact ok.1, fun q hq hqb hmt => ?_, ?_⟩
      · have hc2 := cl_lt hq hqb
        have e3 : cl (cl j v) q ≠ j := by omega
        simp only [e3, if_false, if_true]
        have hqb' := hqb
        rw [cl_bit (by omega) hq] at hqb'
        simp only [Bool.and_eq_true, decide_eq_true_eq] at hqb'
        refine ok.2.1 q ?_ ?_ (by simp [hqb, hmt])
        · rcases Nat.lt_trichotomy q v with h | h | h
          · rw [hlow' q h] at hqb'; cases hqb'.1
          · exact absurd h hqb'.2
          · omega
        · by_cases hqn : q < n
          · omega
          · rw [Nat.testBit_lt_two_pow (Nat.lt_of_lt_of_le hm (Nat.pow_le_pow_right (by decide) (by omega)))] at hqb'
            cases hqb'.1
      · rcases ok.2.2 with e | ⟨q, q1, q2, q3, q4⟩
        · left; simp only [ene, if_false, if_true]; exact e
        · simp only [Bool.and_eq_true] at q3
          have hc2 := cl_lt (show q < 7 by omega) q3.1
          have e3 : cl (cl j v) q ≠ j := by omega
          right
          exact ⟨q, by omega, q3.1, q3.2, by simp only [e3, if_false, if_true]; exact q4⟩
    · exact (hT2 j g0 (by omega)).up (by omega) (by omega)
theorem q_most {s : zS} (hN : JNx s n G M H D c0 c1) (hK : JK s n G M H c0 c1 A B) (h93 : s.1 93 0 = 0) : QR f_X7_most f_X8_most s n G M H c0 c1 A B := by
  have hn := hN.1.1
  have h128 := pow_128 hn
  have h2p := Nat.two_pow_pos n
  obtain ⟨s1, T1, a1, a2, a3, a4⟩ := most7 hK
  have hN1 := hN.c a4
  obtain ⟨s2, b1, b2, b3, b4, b5⟩ := lays8 hN1.th.m
  have hZ2 := hN1.th.m.keep b5.1 (by decide)
  have h93' : s2.1 93 0 = 0 := by rw [(b5.1 93 (by decide)).1, zs_i_n _ _ _ _ _ (by decide), (a4 93 (by decide)).1]; exact h93
  obtain ⟨q', t, g1, g2, g3, T2, g4⟩ := zlp (fun q m t => f_X8_most_11 q (nI m) t) (2 ^ n) (fun m t => zk_k [93] s2 t ∧ (0 < m) ∧ ∃ T, TAB (zmt G M c0 c1) (t.1 93) m T)
    (fun q m t hm h => by
      obtain ⟨h1, h2, T, h3⟩ := h
      show ∃ a', f_X8_most_11 (q + 1) (nI m) t = f_X8_most_11 q (nI (m + 1)) a' ∧ _
      have hZ3 := hZ2.keep h1 (by decide)
      obtain ⟨t', T', d1, d2, d3⟩ := most8_one (f_X8_most_11 q) hZ3 (fun a b ha hb => by rw [(h1 89 (by decide)).1]; exact b4 a b ha hb) h2 hm h3
      rw [f_X8_most_11, r77_1, hZ3.2.1, Option.bind_some, one_shl n (by omega), if_neg (nI_ge hm (by omega)), d1]
      exact ⟨t', rfl, h1.tr d2, by omega, T', d3⟩) (2 ^ n - 1) 1 zFU s2 (by omega) (by show 2 ^ n - 1 < 5000; omega) ⟨zk_k.rf, by decide, fun _ => 0, rfl, fun _ => Nat.zero_le _, fun j hj => by
        have e : j = 0 := by omega
        subst e; exact h93', fun m h1 h2 => by omega⟩
  have g1' : f_X8_most_11 zFU 1 s2 = f_X8_most_11 (q' + 1) (nI (2 ^ n)) t := g1
  have hZ3 := hZ2.keep g2 (by decide)
  have ev : f_X8_everybody t = some (nI (2 ^ n - 1), t) := by
    rw [f_X8_everybody, r77_1 t, Option.bind_some, hZ3.2.1, one_shl n (by omega)]
    exact congrArg (fun x => some (x, t)) (pk_sub (b := 1) (Nat.one_le_two_pow))
  have eq : T1 (2 ^ n - 1) = T2 (2 ^ n - 1) := by
    obtain ⟨⟨l1, p1, p2⟩, p3⟩ := rec_ok (zmt_sym G M c0 c1) (N := 2 ^ n) a2.1 a2.2.2.2 (2 ^ n - 1) _ (Nat.le_refl _) (by omega) (by omega)
    obtain ⟨⟨l2, p4, p5⟩, p6⟩ := rec_ok (zmt_sym G M c0 c1) (N := 2 ^ n) g4.1 g4.2.2.2 (2 ^ n - 1) _ (Nat.le_refl _) (by omega) (by omega)
    have := p6 l1 p1
    have := p3 l2 p4
    omega
  refine ⟨nI (T1 (2 ^ n - 1)), s1, t, ?_, ?_, a3, a4, zk_m.th.tr ((b5.mono (by decide)).tr ⟨g2.mono (by decide), by rw [(g2 76 (by decide)).1], by rw [(g2 76 (by decide)).1], by rw [(g2 76 (by decide)).1], by rw [(g2 76 (by decide)).1]⟩), ?_⟩
  · rw [f_X7_most, a1, zbd_some]
  · rw [f_X8_most, zb_eq, b1, zbd_some, g1', f_X8_most_11, r77_1, hZ3.2.1, Option.bind_some, one_shl n (by omega), if_pos (nI_le (Nat.le_refl _) (by omega)), ev, zbd_some, rd_93 t (2 ^ n - 1) rfl (by omega), Option.bind_some, g4.2.2.1 _ (by omega), eq]
  · rw [g4.2.2.1 0 (by omega), g4.1, (a4 93 (by decide)).1, h93]; rfl
end MOST8
