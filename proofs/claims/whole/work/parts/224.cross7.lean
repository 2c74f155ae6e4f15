theorem gdK {L : List Nat} (G : Nat → Nat) {i : Nat} (h : i < L.length) : (L.map G).getD i 0 = G (L.getD i 0) := gd_map G L 0 0 h
/-- what is found for a set: the fewest, and shifts -/
def ZR7 (s : zS) (m : Nat) (st : Nat × List Nat) : Prop := s.1 47 m = nI st.1 ∧ st.1 < 2 ^ 31 ∧ ∀ i, i < st.2.length → s.1 49 (4 * m + i) = nI (st.2.getD i 0)
def ZP7 (s : zS) (pre : List (Nat × Nat)) : Prop := ∀ i, i < pre.length → s.1 56 i = nI (pre.getD i (0, 0)).2
/-- what laying changes -/
def ZF7 (m k : Nat) (s t : zS) : Prop := zk_k [47, 49, 56, 57] s t ∧ (∀ j, j ≠ m → t.1 47 j = s.1 47 j) ∧ (∀ j, (j < 4 * m ∨ 4 * m + 4 ≤ j) → t.1 49 j = s.1 49 j) ∧ (∀ i, i < k → t.1 56 i = s.1 56 i) ∧ ∀ j, j < 36 * (k + 1) → t.1 57 j = s.1 57 j
theorem ZF7.rf {m k : Nat} {s : zS} : ZF7 m k s s := ⟨zk_k.rf, fun _ _ => rfl, fun _ _ => rfl, fun _ _ => rfl, fun _ _ => rfl⟩
theorem ZF7.tr {m k : Nat} {s t u : zS} (h1 : ZF7 m k s t) (h2 : ZF7 m k t u) : ZF7 m k s u := ⟨h1.1.tr h2.1, fun j hj => (h2.2.1 j hj).trans (h1.2.1 j hj), fun j hj => (h2.2.2.1 j hj).trans (h1.2.2.1 j hj), fun i hi => (h2.2.2.2.1 i hi).trans (h1.2.2.2.1 i hi), fun i hi => (h2.2.2.2.2 i hi).trans (h1.2.2.2.2 i hi)⟩
theorem ZF7.less {m k j : Nat} {s t : zS} (h : ZF7 m k s t) (hj : j ≤ k) : ZF7 m j s t := ⟨h.1, h.2.1, h.2.2.1, fun i hi => h.2.2.2.1 i (by omega), fun i hi => h.2.2.2.2 i (by omega)⟩
theorem ZP7.keep {m k : Nat} {s t : zS} {pre : List (Nat × Nat)} (h : ZP7 s pre) (hf : ZF7 m k s t) (hk : pre.length ≤ k) : ZP7 t pre := fun i hi => by
  rw [hf.2.2.2.1 i (by omega)]; exact h i hi
theorem ZX7.keep {m k : Nat} {s t : zS} {K : List Nat} {pre : List (Nat × Nat)} (h : ZX7 s K pre) (hf : ZF7 m k s t) (hk : pre.length ≤ k) (h4 : K.length ≤ 4) : ZX7 t K pre := fun j h1 h2 u hu => by
  rw [hf.2.2.2.2 _ (by omega)]; exact h j h1 h2 u hu
theorem lay7 {L K : List Nat} {m : Nat} (hm : m < 128) : ∀ (rest : List Nat) (b : Nat) (pre : List (Nat × Nat)) (cross : Nat) (st : Nat × List Nat) (s : zS) (d : Nat), K.drop pre.length = b :: rest → rest.length < d → cross ≤ 324 * pre.length → ZB7 s L K → ZP7 s pre → ZX7 s K pre → ZR7 s m st →
    ∃ s', f_X4_lay d (nI m) (nI pre.length) (nI cross) s = some ((), s') ∧ ZR7 s' m (zfd (fun t st => zgo rest (pre ++ [(b, t)]) (cross + zadd pre b t) st) 9 0 st) ∧ ZF7 m pre.length s s' := by
  intro rest
  induction rest with
  | nil =>
    intro b pre cross st s d hdr hd hc hB hP hX hR
    obtain ⟨d, rfl⟩ : ∃ q, d = q + 1 := ⟨d - 1, by omega⟩
    have h4 := hB.2.1
    have hKL := hB.2.2.1
    have hlK : pre.length + 1 = K.length := by
      have := congrArg List.length hdr
      rw [List.length_drop] at this
      simp only [List.length_cons, List.length_nil] at this
      omega
    have hb : K.getD pre.length 0 = b := gd_drop hdr
    rw [f_X4_lay, g_X4_lay]
    have loop : ∀ (j t n : Nat) (st : Nat × List Nat) (u : zS), t + j = 9 → j < n → ZF7 m pre.length s u → ZR7 u m st → ∃ s', f_X4_lay_3 (f_X4_lay d) n (nI m) (nI pre.length) (nI cross) (nI t) u = some ((), s') ∧ ZR7 s' m (zfd (fun t st => zgo [] (pre ++ [(b, t)]) (cross + zadd pre b t) st) j t st) ∧ ZF7 m pre.length s s' := by
      intro j
      induction j with
      | zero =>
        intro t n st u ht hn hF hR
        obtain ⟨n, rfl⟩ : ∃ q, n = q + 1 := ⟨n - 1, by omega⟩
        rw [f_X4_lay_3, if_pos (nI_le (by omega) (by omega))]
        exact ⟨u, rfl, hR, hF⟩
      | succ j ihj =>
        intro t n st u ht hn hF hR
        obtain ⟨n, rfl⟩ : ∃ q, n = q + 1 := ⟨n - 1, by omega⟩
        have hB1 := hB.keep hF.1 (by decide)
        have hX1 := hX.keep hF (Nat.le_refl _) (by omega)
        have hP1 := hP.keep hF (Nat.le_refl _)
        have hz := zadd_le b t pre
        have e57 := hX1 pre.length (Nat.le_refl _) (by omega) t (by omega)
        rw [hb] at e57
        rw [f_X4_lay_3, if_neg (nI_ge (by omega) (by omega)), if_neg (nI_ge (by omega) (by omega)), rd_57 u ((pre.length * 4 + pre.length) * 9 + t) (by rw [pk_mul, nI_add, pk_mul, nI_add]) (by omega), Option.bind_some, e57, zb_eq, nI_add cross, rd_47 u m rfl hm, Option.bind_some, hR.1]
        have step : ∀ (st2 : Nat × List Nat) (u2 : zS), zgo [] (pre ++ [(b, t)]) (cross + zadd pre b t) st = st2 → ZF7 m pre.length s u2 → ZR7 u2 m st2 → ∃ s', f_X4_lay_132 (f_X4_lay d) (f_X4_lay_3 (f_X4_lay d) n) (nI m) (nI pre.length) (nI cross) (nI t) u2 = some ((), s') ∧ ZR7 s' m (zfd (fun t st => zgo [] (pre ++ [(b, t)]) (cross + zadd pre b t) st) (j + 1) t st) ∧ ZF7 m pre.length s s' := by
          intro st2 u2 e hF2 hR2
          rw [f_X4_lay_132, zb_eq, nI_1]
          obtain ⟨s', g1, g2, g3⟩ := ihj (t + 1) n st2 u2 (by omega) (by omega) hF2 hR2
          refine ⟨s', g1, ?_, g3⟩
          show ZR7 s' m (zfd _ j (t + 1) (zgo [] (pre ++ [(b, t)]) (cross + zadd pre b t) st))
          rw [e]; exact g2
        by_cases hlt : st.1 ≤ cross + zadd pre b t
        · rw [if_pos (nI_le hlt (by omega))]
          exact step st u (by rw [zgo, if_pos hlt]) hF hR
        · rw [if_neg (nI_ge (by omega) hR.2.1), wr_56 u pre.length rfl (by omega), Option.bind_some, zs_i_n _ _ _ _ _ (by decide : (42 : Nat) ≠ 56), hB1.1, nI_1, if_neg (nI_nlt (by omega) (by omega)), wr_47 _ m rfl hm, Option.bind_some, zs_i_n _ _ _ _ _ (by decide : (42 : Nat) ≠ 47), zs_i_n _ _ _ _ _ (by decide : (42 : Nat) ≠ 56), hB1.1, wc_ok (x := (0 : Int32)) (sp := 0) (dp := m * 4) (m := L.length) zd_56 zd_49 zn_56 zn_49 rfl (pk_mul _ _) rfl (by omega) (by omega) (by omega) (by omega) (by omega), Option.bind_some]
          refine step (cross + zadd pre b t, (pre ++ [(b, t)]).map Prod.snd) _ (by rw [zgo, if_neg hlt]) ?_ ⟨?_, ?_, fun i hi => ?_⟩
          · refine hF.tr ⟨((zk_k.rf.i (by simp)).i (by simp)).tr (zsc_k (by simp)), fun j hj => ?_, fun j hj => ?_, fun i hi => ?_, fun i hi => ?_⟩
            · rw [((zsc_k (S := [49]) (by simp)) 47 (by decide)).1, zs_i_o _ _ _ _ _ hj, zs_i_n _ _ _ _ _ (by decide)]
            · rw [zsc_out (by omega), zs_i_n _ _ _ _ _ (by decide), zs_i_n _ _ _ _ _ (by decide)]
            · rw [((zsc_k (S := [49]) (by simp)) 56 (by decide)).1, zs_i_n _ _ _ _ _ (by decide), zs_i_o _ _ _ _ _ (by omega)]
            · rw [((zsc_k (S := [49]) (by simp)) 57 (by decide)).1, zs_i_n _ _ _ _ _ (by decide), zs_i_n _ _ _ _ _ (by decide)]
          · rw [((zsc_k (S := [49]) (by simp)) 47 (by decide)).1, zs_i_v]
          · show cross + zadd pre b t < 2 ^ 31; omega
          · simp only [List.length_map, List.length_append, List.length_singleton] at hi
            show _ = nI (((pre ++ [(b, t)]).map Prod.snd).getD i 0)
            rw [zsc_in (by omega) (by omega), zs_i_n _ _ _ _ _ (by decide), show 0 + (4 * m + i - m * 4) = i by omega, gd_map Prod.snd (pre ++ [(b, t)]) (0, 0) 0 (by simp; omega)]
            by_cases e : i = pre.length
            · subst e; rw [zs_i_v, gd_eq]
            · rw [zs_i_o _ _ _ _ _ e, gd_lt _ _ _ (by omega)]
              exact hP1 i (by omega)
    exact loop 9 0 zFU st s (by decide) (by decide) ZF7.rf hR
  | cons c rest ih =>
    intro b pre cross st s d hdr hd hc hB hP hX hR
    simp only [List.length_cons] at hd
    obtain ⟨d, rfl⟩ : ∃ q, d = q + 1 := ⟨d - 1, by omega⟩
    have h4 := hB.2.1
    have hKL := hB.2.2.1
    have hlK : pre.length + 1 + (rest.length + 1) = K.length := by
      have := congrArg List.length hdr
      rw [List.length_drop] at this
      simp only [List.length_cons] at this
      omega
    have hb : K.getD pre.length 0 = b := gd_drop hdr
    have hdr2 : K.drop (pre.length + 1) = c :: rest := by rw [← List.drop_drop, hdr]; rfl
    rw [f_X4_lay, g_X4_lay]
    have loop : ∀ (j t n : Nat) (st : Nat × List Nat) (u : zS), t + j = 9 → j < n → ZF7 m pre.length s u → ZR7 u m st → ∃ s', f_X4_lay_3 (f_X4_lay d) n (nI m) (nI pre.length) (nI cross) (nI t) u = some ((), s') ∧ ZR7 s' m (zfd (fun t st => zgo (c :: rest) (pre ++ [(b, t)]) (cross + zadd pre b t) st) j t st) ∧ ZF7 m pre.length s s' := by
      intro j
      induction j with
      | zero =>
        intro t n st u ht hn hF hR
        obtain ⟨n, rfl⟩ : ∃ q, n = q + 1 := ⟨n - 1, by omega⟩
        rw [f_X4_lay_3, if_pos (nI_le (by omega) (by omega))]
        exact ⟨u, rfl, hR, hF⟩
      | succ j ihj =>
        intro t n st u ht hn hF hR
        obtain ⟨n, rfl⟩ : ∃ q, n = q + 1 := ⟨n - 1, by omega⟩
        have hB1 := hB.keep hF.1 (by decide)
        have hX1 := hX.keep hF (Nat.le_refl _) (by omega)
        have hP1 := hP.keep hF (Nat.le_refl _)
        have hz := zadd_le b t pre
        have e57 := hX1 pre.length (Nat.le_refl _) (by omega) t (by omega)
        rw [hb] at e57
        rw [f_X4_lay_3, if_neg (nI_ge (by omega) (by omega)), if_neg (nI_ge (by omega) (by omega)), rd_57 u ((pre.length * 4 + pre.length) * 9 + t) (by rw [pk_mul, nI_add, pk_mul, nI_add]) (by omega), Option.bind_some, e57, zb_eq, nI_add cross, rd_47 u m rfl hm, Option.bind_some, hR.1]
        have step : ∀ (st2 : Nat × List Nat) (u2 : zS), zgo (c :: rest) (pre ++ [(b, t)]) (cross + zadd pre b t) st = st2 → ZF7 m pre.length s u2 → ZR7 u2 m st2 → ∃ s', f_X4_lay_132 (f_X4_lay d) (f_X4_lay_3 (f_X4_lay d) n) (nI m) (nI pre.length) (nI cross) (nI t) u2 = some ((), s') ∧ ZR7 s' m (zfd (fun t st => zgo (c :: rest) (pre ++ [(b, t)]) (cross + zadd pre b t) st) (j + 1) t st) ∧ ZF7 m pre.length s s' := by
          intro st2 u2 e hF2 hR2
          rw [f_X4_lay_132, zb_eq, nI_1]
          obtain ⟨s', g1, g2, g3⟩ := ihj (t + 1) n st2 u2 (by omega) (by omega) hF2 hR2
          refine ⟨s', g1, ?_, g3⟩
          show ZR7 s' m (zfd _ j (t + 1) (zgo (c :: rest) (pre ++ [(b, t)]) (cross + zadd pre b t) st))
          rw [e]; exact g2
        by_cases hlt : st.1 ≤ cross + zadd pre b t
        · rw [if_pos (nI_le hlt (by omega))]
          exact step st u (by rw [zgo, if_pos hlt]) hF hR
        · have hst := hR.2.1
          have f1 : ZF7 m pre.length u (zs_i u 56 pre.length (nI t)) := ⟨zk_k.rf.i (by simp), fun j _ => by rw [zs_i_n _ _ _ _ _ (by decide)], fun j _ => by rw [zs_i_n _ _ _ _ _ (by decide)], fun i hi => zs_i_o _ _ _ _ _ (by omega), fun i _ => by rw [zs_i_n _ _ _ _ _ (by decide)]⟩
          have hB2 := hB1.keep f1.1 (by decide)
          have hX2 := hX1.keep f1 (Nat.le_refl _) (by omega)
          obtain ⟨r, u2, a1, a2, a3, a4, a5, a6⟩ := lb7 (t0 := t) (en := st.1 - (cross + zadd pre b t)) hB2 (by omega) (by omega) hX2 (by omega)
          rw [hb] at a3 a4
          rw [if_neg (nI_ge (by omega) hR.2.1), wr_56 u pre.length rfl (by omega), Option.bind_some, nI_1, hB2.1, if_pos (nI_lt (by omega) (by omega)), rd_47 _ m rfl hm, Option.bind_some, zs_i_n _ _ _ _ _ (by decide : (47 : Nat) ≠ 56), hR.1, pk_sub (by omega), a1, zbd_some, rd_47 u2 m rfl hm, Option.bind_some, (a5 47 (by decide)).1, zs_i_n _ _ _ _ _ (by decide : (47 : Nat) ≠ 56), hR.1, pk_sub (by omega)]
          have f2 : ZF7 m pre.length u u2 := f1.tr ⟨a5.mono (by simp), fun j _ => by rw [(a5 47 (by decide)).1], fun j _ => by rw [(a5 49 (by decide)).1], fun i _ => by rw [(a5 56 (by decide)).1], fun i hi => a6 i hi⟩
          have hR2 : ZR7 u2 m st := by
            unfold ZR7
            rw [(a5 47 (by decide)).1, (a5 49 (by decide)).1, zs_i_n _ _ _ _ _ (by decide : (47 : Nat) ≠ 56), zs_i_n _ _ _ _ _ (by decide : (49 : Nat) ≠ 56)]
            exact hR
          by_cases hr : st.1 - (cross + zadd pre b t) ≤ r
          · rw [if_pos (nI_le hr a2)]
            refine step st u2 (zgo_same _ _ _ _ (fun ss hss => ?_)) (hF.tr f2) hR2
            have h1 := zlbs_ok (c :: rest) (pre ++ [(b, t)]) (cross + zadd pre b t) ss (by simp; omega) hss
            have h2 := a3 hr
            rw [hdr2] at h2
            omega
          · rw [if_neg (nI_ge (by omega) (by omega))]
            have hlen : (pre ++ [(b, t)]).length = pre.length + 1 := by simp
            obtain ⟨u3, b1, b2, b3⟩ := ih c (pre ++ [(b, t)]) (cross + zadd pre b t) st u2 d (by rw [hlen]; exact hdr2) (by omega) (by rw [hlen]; omega) (hB1.keep f2.1 (by decide)) (fun i hi => by
              rw [hlen] at hi
              rw [(a5 56 (by decide)).1]
              by_cases e : i = pre.length
              · subst e; rw [zs_i_v, gd_eq]
              · rw [zs_i_o _ _ _ _ _ e, gd_lt _ _ _ (by omega)]
                exact hP1 i (by omega)) (a4 (by omega)) hR2
            rw [hlen] at b1 b3
            rw [b1, zbd_some]
            refine step _ u3 ?_ (hF.tr (f2.tr (b3.less (by omega)))) b2
            rw [zgo, if_neg hlt]
    exact loop 9 0 zFU st s (by decide) (by decide) ZF7.rf hR
