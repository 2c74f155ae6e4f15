/-- laying: crossings so far of each one behind, at each shift -/
def ZX7 (s : zS) (K : List Nat) (pre : List (Nat × Nat)) : Prop := ∀ k, pre.length ≤ k → k < K.length → ∀ t, t < 9 → s.1 57 ((pre.length * 4 + k) * 9 + t) = nI (zadd pre (K.getD k 0) t)
/-- the members L, their signs K -/
def ZB7 (s : zS) (L K : List Nat) : Prop := s.1 42 14 = nI L.length ∧ L.length ≤ 4 ∧ K.length = L.length ∧ (∀ i, i < L.length → s.1 55 i = nI (L.getD i 0) ∧ L.getD i 0 < 7) ∧ ∀ i j, i < j → j < L.length → s.1 44 (7 * L.getD i 0 + L.getD j 0) = nI (zfew (K.getD i 0) (K.getD j 0)) ∧ ∀ x, x < 25 → s.1 43 ((7 * L.getD i 0 + L.getD j 0) * 25 + x) = nI (zap (K.getD i 0) (K.getD j 0) x)
theorem ZB7.keep {s t : zS} {S L K : List Nat} (h : ZB7 s L K) (hk : zk_k S s t) (hd : 42 ∉ S ∧ 43 ∉ S ∧ 44 ∉ S ∧ 55 ∉ S) : ZB7 t L K := by
  unfold ZB7
  rw [(hk 42 hd.1).1, (hk 43 hd.2.1).1, (hk 44 hd.2.2.1).1, (hk 55 hd.2.2.2).1]
  exact h
theorem lb7_79 (kb : Int32 → Int32 → Int32 → Int32 → Int32 → zS → Option (Int32 × zS)) {i k t0 acc b c fr : Nat} {pre : List (Nat × Nat)} {v3 : Int32} {s : zS} (hp4 : pre.length ≤ 3) (hik : i < k) (hk : k < 4) (ht0 : t0 < 9) (hfr : fr + 25 ≤ 1225)
    (hap : ∀ x, x < 25 → s.1 43 (fr + x) = nI (zap b c x)) (hpre : ∀ u, u < 9 → s.1 57 ((i * 4 + k) * 9 + u) = nI (zadd pre c u)) :
    ∃ s', f_X4_leastBehind_79 kb zFU (nI i) (nI t0) v3 (nI acc) (nI k) (nI ((i * 4 + k) * 9)) (nI ((i * 4 + k) * 9 + 36)) (nI (fr + 12 - zPL t0)) (1000000 : Int32) 0 s = f_X4_leastBehind_160 kb zFU (nI i) (nI t0) v3 (nI (acc + zmn 1000000 (fun u => zadd (pre ++ [(b, t0)]) c u) 9)) (nI k) (nI (k + 1)) s' ∧ zk_k [57] s s' ∧ (∀ j, (j < (i * 4 + k) * 9 + 36 ∨ (i * 4 + k) * 9 + 45 ≤ j) → s'.1 57 j = s.1 57 j) ∧ ∀ w, w < 9 → s'.1 57 ((i * 4 + k) * 9 + 36 + w) = nI (zadd (pre ++ [(b, t0)]) c w) := by
  have hlen : (pre ++ [(b, t0)]).length ≤ 4 := by simp; omega
  obtain ⟨q', s1, g1, g2, g3, g4⟩ := zlp (fun q u s => f_X4_leastBehind_79 kb q (nI i) (nI t0) v3 (nI acc) (nI k) (nI ((i * 4 + k) * 9)) (nI ((i * 4 + k) * 9 + 36)) (nI (fr + 12 - zPL t0)) (nI (zmn 1000000 (fun u => zadd (pre ++ [(b, t0)]) c u) u)) (nI u) s) 9 (fun u t => zk_k [57] s t ∧ (∀ j, (j < (i * 4 + k) * 9 + 36 ∨ (i * 4 + k) * 9 + 45 ≤ j) → t.1 57 j = s.1 57 j) ∧ ∀ w, w < u → t.1 57 ((i * 4 + k) * 9 + 36 + w) = nI (zadd (pre ++ [(b, t0)]) c w))
    (fun q u t hu h => by
      show ∃ a', f_X4_leastBehind_79 kb (q + 1) (nI i) (nI t0) v3 (nI acc) (nI k) (nI ((i * 4 + k) * 9)) (nI ((i * 4 + k) * 9 + 36)) (nI (fr + 12 - zPL t0)) (nI (zmn 1000000 (fun u => zadd (pre ++ [(b, t0)]) c u) u)) (nI u) t = f_X4_leastBehind_79 kb q (nI i) (nI t0) v3 (nI acc) (nI k) (nI ((i * 4 + k) * 9)) (nI ((i * 4 + k) * 9 + 36)) (nI (fr + 12 - zPL t0)) (nI (zmn 1000000 (fun u => zadd (pre ++ [(b, t0)]) c u) (u + 1))) (nI (u + 1)) a' ∧ _
      have hu12 := zPL_12 u hu
      have ht12 := zPL_12 t0 ht0
      have hz := zadd_le c u (pre ++ [(b, t0)])
      have hm := (zmn_le (k0 := 1000000) (f := fun u => zadd (pre ++ [(b, t0)]) c u) u).1
      have e1 : zadd pre c u + zap b c (12 + zPL u - zPL t0) = zadd (pre ++ [(b, t0)]) c u := (zadd_snoc (b, t0) c u pre).symm
      rw [f_X4_leastBehind_79, if_neg (nI_ge hu (by omega)), rd_57 t ((i * 4 + k) * 9 + u) (nI_add _ _) (by omega), Option.bind_some, pl_ok u hu, Option.bind_some, rd_43 t (fr + (12 + zPL u - zPL t0)) (by rw [nI_add]; congr 1; omega) (by omega), Option.bind_some, zb_eq, h.2.1 _ (by omega), hpre u hu, (h.1 43 (by decide)).1, hap _ (by omega), nI_add (zadd pre c u), e1, wr_57 t ((i * 4 + k) * 9 + 36 + u) (nI_add _ _) (by omega), Option.bind_some, zmn]
      have fin : zk_k [57] s (zs_i t 57 ((i * 4 + k) * 9 + 36 + u) (nI (zadd (pre ++ [(b, t0)]) c u))) ∧ (∀ j, (j < (i * 4 + k) * 9 + 36 ∨ (i * 4 + k) * 9 + 45 ≤ j) → (zs_i t 57 ((i * 4 + k) * 9 + 36 + u) (nI (zadd (pre ++ [(b, t0)]) c u))).1 57 j = s.1 57 j) ∧ ∀ w, w < u + 1 → (zs_i t 57 ((i * 4 + k) * 9 + 36 + u) (nI (zadd (pre ++ [(b, t0)]) c u))).1 57 ((i * 4 + k) * 9 + 36 + w) = nI (zadd (pre ++ [(b, t0)]) c w) := by
        refine ⟨h.1.i (by simp), fun j hj => ?_, fun w hw => ?_⟩
        · rw [zs_i_o _ _ _ _ _ (by omega)]; exact h.2.1 j hj
        · by_cases e : w = u
          · subst e; rw [zs_i_v]
          · rw [zs_i_o _ _ _ _ _ (by omega)]; exact h.2.2 w (by omega)
      by_cases hc : zadd (pre ++ [(b, t0)]) c u < zmn 1000000 (fun u => zadd (pre ++ [(b, t0)]) c u) u
      · rw [if_neg (nI_ge hc (by omega)), if_pos hc, f_X4_leastBehind_139, zb_eq, nI_1]
        exact ⟨_, rfl, fin⟩
      · rw [if_pos (nI_le (by omega) (by omega)), if_neg hc, f_X4_leastBehind_139, zb_eq, nI_1]
        exact ⟨_, rfl, fin⟩) 9 0 zFU s (by decide) (by decide) ⟨zk_k.rf, fun _ _ => rfl, fun w hw => by omega⟩
  have g1' : f_X4_leastBehind_79 kb zFU (nI i) (nI t0) v3 (nI acc) (nI k) (nI ((i * 4 + k) * 9)) (nI ((i * 4 + k) * 9 + 36)) (nI (fr + 12 - zPL t0)) (1000000 : Int32) 0 s = f_X4_leastBehind_79 kb (q' + 1) (nI i) (nI t0) v3 (nI acc) (nI k) (nI ((i * 4 + k) * 9)) (nI ((i * 4 + k) * 9 + 36)) (nI (fr + 12 - zPL t0)) (nI (zmn 1000000 (fun u => zadd (pre ++ [(b, t0)]) c u) 9)) (nI 9) s1 := g1
  rw [g1', f_X4_leastBehind_79, if_pos (nI_le (Nat.le_refl _) (by omega)), zb_eq, zb_eq, nI_add acc, nI_1]
  exact ⟨s1, rfl, g2, g3, g4⟩
theorem drop_cons {l : List Nat} {k : Nat} (h : k < l.length) : l.drop k = l.getD k 0 :: l.drop (k + 1) := by
  rw [List.drop_eq_getElem_cons h]
  congr 1
  rw [List.getD_eq_getElem?_getD, List.getElem?_eq_getElem h]; rfl
theorem lb7_160 (kb : Int32 → Int32 → Int32 → Int32 → Int32 → zS → Option (Int32 × zS)) {L K : List Nat} {k : Nat} {v1 v2 v3 : Int32} {s : zS} (hB : ZB7 s L K) (hk : k < L.length) :
    ∀ (j m q acc : Nat), m + j = L.length → j < q → k < m → f_X4_leastBehind_160 kb q v1 v2 v3 (nI acc) (nI k) (nI m) s = kb v1 v2 v3 (nI (acc + zxs (K.getD k 0) (K.drop m))) (nI (k + 1)) s := by
  have h4 := hB.2.1
  intro j
  induction j with
  | zero =>
    intro m q acc hm hq hkm
    obtain ⟨q, rfl⟩ : ∃ r, q = r + 1 := ⟨q - 1, by omega⟩
    rw [f_X4_leastBehind_160, hB.1, if_pos (nI_le (by omega) (by omega)), zb_eq, nI_1, List.drop_eq_nil_of_le (by rw [hB.2.2.1]; omega)]
    rfl
  | succ j ih =>
    intro m q acc hm hq hkm
    obtain ⟨q, rfl⟩ : ∃ r, q = r + 1 := ⟨q - 1, by omega⟩
    have h1 := hB.2.2.2.1 k hk
    have h2 := hB.2.2.2.1 m (by omega)
    have h3 := (hB.2.2.2.2 k m hkm (by omega)).1
    rw [f_X4_leastBehind_160, hB.1, if_neg (nI_ge (by omega) (by omega)), rd_55 s k rfl (by omega), Option.bind_some, rd_55 s m rfl (by omega), Option.bind_some, h1.1, h2.1, rd_44 s (7 * L.getD k 0 + L.getD m 0) (by rw [pk_mul, nI_add, Nat.mul_comm]) (by omega), Option.bind_some, h3, zb_eq, zb_eq, nI_add, nI_1, ih (m + 1) q _ (by omega) (by omega) (by omega), drop_cons (l := K) (k := m) (by rw [hB.2.2.1]; omega), Nat.add_assoc]
    rfl
theorem lb7 {L K : List Nat} {pre : List (Nat × Nat)} {t0 en : Nat} {s : zS} (hB : ZB7 s L K) (hl : pre.length < L.length) (ht0 : t0 < 9) (hX : ZX7 s K pre) (hen : en < 2 ^ 31) :
    ∃ (r : Nat) (s' : zS), f_X4_leastBehind (nI pre.length) (nI t0) (nI en) s = some (nI r, s') ∧ r < 2 ^ 31 ∧ (en ≤ r → en ≤ zlbs (K.drop (pre.length + 1)) (pre ++ [(K.getD pre.length 0, t0)])) ∧ (r < en → ZX7 s' K (pre ++ [(K.getD pre.length 0, t0)])) ∧ zk_k [57] s s' ∧ ∀ j, j < 36 * (pre.length + 1) → s'.1 57 j = s.1 57 j := by
  have h4 := hB.2.1
  have hKL := hB.2.2.1
  have hlen : (pre ++ [(K.getD pre.length 0, t0)]).length = pre.length + 1 := by simp
  have main : ∀ (j k q acc : Nat) (t : zS), k + j = L.length → j < q → pre.length < k → acc ≤ 1000 * k → zk_k [57] s t → (∀ x, x < 36 * (pre.length + 1) → t.1 57 x = s.1 57 x) → acc + zlbs (K.drop k) (pre ++ [(K.getD pre.length 0, t0)]) = zlbs (K.drop (pre.length + 1)) (pre ++ [(K.getD pre.length 0, t0)]) →
      (∀ k2, pre.length < k2 → k2 < k → ∀ u, u < 9 → t.1 57 (((pre.length + 1) * 4 + k2) * 9 + u) = nI (zadd (pre ++ [(K.getD pre.length 0, t0)]) (K.getD k2 0) u)) →
      ∃ (r : Nat) (s' : zS), f_X4_leastBehind_8 q (nI pre.length) (nI t0) (nI en) (nI acc) (nI k) t = some (nI r, s') ∧ r < 2 ^ 31 ∧ (en ≤ r → en ≤ zlbs (K.drop (pre.length + 1)) (pre ++ [(K.getD pre.length 0, t0)])) ∧ (r < en → ZX7 s' K (pre ++ [(K.getD pre.length 0, t0)])) ∧ zk_k [57] s s' ∧ ∀ j, j < 36 * (pre.length + 1) → s'.1 57 j = s.1 57 j := by
    intro j
    induction j with
    | zero =>
      intro k q acc t hk hq hpk hacc hkk hfr hsum hrow
      obtain ⟨q, rfl⟩ : ∃ r, q = r + 1 := ⟨q - 1, by omega⟩
      have hB1 := hB.keep hkk (by decide)
      rw [f_X4_leastBehind_8, hB1.1, if_pos (nI_le (by omega) (by omega))]
      rw [List.drop_eq_nil_of_le (show K.length ≤ k by omega)] at hsum
      simp only [zlbs, Nat.add_zero] at hsum
      refine ⟨acc, t, rfl, by omega, fun h => by omega, fun _ => ?_, hkk, hfr⟩
      intro k2 h1 h2 u hu
      rw [hlen] at h1 ⊢
      exact hrow k2 (by omega) (by omega) u hu
    | succ j ih =>
      intro k q acc t hk hq hpk hacc hkk hfr hsum hrow
      obtain ⟨q, rfl⟩ : ∃ r, q = r + 1 := ⟨q - 1, by omega⟩
      have hB1 := hB.keep hkk (by decide)
      rw [f_X4_leastBehind_8, hB1.1, if_neg (nI_ge (by omega) (by omega))]
      by_cases hc : en ≤ acc
      · rw [if_pos (nI_le hc (by omega))]
        exact ⟨acc, t, rfl, by omega, fun h => by omega, fun h => by omega, hkk, hfr⟩
      · have h1 := hB1.2.2.2.1 pre.length hl
        have h2 := hB1.2.2.2.1 k (by omega)
        have h3 := (hB1.2.2.2.2 pre.length k hpk (by omega)).2
        have ht12 := zPL_12 t0 ht0
        have e1 : ((nI (L.getD pre.length 0) * nI 7 + nI (L.getD k 0)) * nI 25 + nI 12) - nI (zPL t0) = nI ((7 * L.getD pre.length 0 + L.getD k 0) * 25 + 12 - zPL t0) := by
          rw [pk_mul, nI_add, pk_mul, nI_add, pk_sub (by omega), Nat.mul_comm (L.getD pre.length 0) 7]
        rw [if_neg (nI_ge (by omega) (by omega)), zb_eq, zb_eq, rd_55 t pre.length rfl (by omega), Option.bind_some, rd_55 t k rfl (by omega), Option.bind_some, h1.1, h2.1, pl_ok t0 ht0, Option.bind_some, zb_eq, e1, pk_mul, nI_add, pk_mul, nI_add]
        obtain ⟨t2, a1, a2, a3, a4⟩ := lb7_79 (f_X4_leastBehind_8 q) (i := pre.length) (k := k) (t0 := t0) (acc := acc) (b := K.getD pre.length 0) (c := K.getD k 0) (fr := (7 * L.getD pre.length 0 + L.getD k 0) * 25) (pre := pre) (v3 := nI en) (s := t) (by omega) hpk (by omega) ht0 (by omega) h3 (fun u hu => by
          rw [hfr _ (by omega)]
          exact hX k (by omega) (by omega) u hu)
        rw [a1, lb7_160 (f_X4_leastBehind_8 q) (hB1.keep a2 (by decide)) (by omega) (L.length - (k + 1)) (k + 1) zFU _ (by omega) (by show L.length - (k + 1) < 5000; omega) (by omega)]
        have hz0 := (zmn_le (k0 := 1000000) (f := fun u => zadd (pre ++ [(K.getD pre.length 0, t0)]) (K.getD k 0) u) 9).2 0 (by decide)
        have hz1 := zadd_le (K.getD k 0) 0 (pre ++ [(K.getD pre.length 0, t0)])
        rw [hlen] at hz1
        have hz2 : ∀ l : List Nat, zxs (K.getD k 0) l ≤ 9 * l.length := by
          intro l
          induction l with
          | nil => exact Nat.le_refl _
          | cons x l ih => have := zfew_le (K.getD k 0) x; show zfew (K.getD k 0) x + zxs (K.getD k 0) l ≤ 9 * (l.length + 1); omega
        have hz3 := hz2 (K.drop (k + 1))
        rw [List.length_drop] at hz3
        have hz4 : zadd (pre ++ [(K.getD pre.length 0, t0)]) (K.getD k 0) 0 ≤ 324 := by omega
        refine ih (k + 1) q _ t2 (by omega) (by omega) (by omega) (by omega) (hkk.tr a2) (fun x hx => by rw [a3 _ (by omega)]; exact hfr x hx) ?_ ?_
        · rw [← hsum, drop_cons (l := K) (k := k) (by omega)]
          show _ = acc + (zmn 1000000 (fun t => zadd (pre ++ [(K.getD pre.length 0, t0)]) (K.getD k 0) t) 9 + zxs (K.getD k 0) (K.drop (k + 1)) + zlbs (K.drop (k + 1)) (pre ++ [(K.getD pre.length 0, t0)]))
          omega
        · intro k2 q1 q2 u hu
          by_cases e : k2 = k
          · subst e
            have := a4 u hu
            rw [show (pre.length * 4 + k2) * 9 + 36 + u = ((pre.length + 1) * 4 + k2) * 9 + u by omega] at this
            exact this
          · rw [a3 _ (by omega)]
            exact hrow k2 q1 (by omega) u hu
  rw [f_X4_leastBehind, zb_eq, nI_1]
  exact main (L.length - (pre.length + 1)) (pre.length + 1) zFU 0 s (by omega) (by show L.length - (pre.length + 1) < 5000; omega) (by omega) (by omega) zk_k.rf (fun _ _ => rfl) (by omega) (fun k2 h1 h2 => by omega)
