theorem lg_le0 (x y : Int64) : (lg_cmp x y ≤ 0) ↔ x ≤ y := by
  unfold lg_cmp
  by_cases a : x > y
  · rw [if_pos a]
    exact ⟨fun z => absurd z (by decide), fun z => absurd a (Int64.not_lt.mpr z)⟩
  · rw [if_neg a]
    have b : x ≤ y := Int64.not_lt.mp a
    refine ⟨fun _ => b, fun _ => ?_⟩
    split <;> decide
theorem lg_eq0 (x y : Int64) : (lg_cmp x y = 0) ↔ x = y := by
  unfold lg_cmp
  by_cases a : x > y
  · rw [if_pos a]
    exact ⟨fun z => absurd z (by decide), fun z => absurd (z ▸ a) (by simp)⟩
  · rw [if_neg a]
    by_cases e : x = y
    · rw [if_pos e]; exact ⟨fun _ => e, fun _ => rfl⟩
    · rw [if_neg e]; exact ⟨fun z => absurd z (by decide), fun z => absurd z e⟩
theorem il_le (x y : Int32) : (x.toInt64 ≤ y.toInt64) ↔ x ≤ y := by
  rw [Int64.le_iff_toInt_le, Int32.le_iff_toInt_le, Int32.toInt_toInt64, Int32.toInt_toInt64]
theorem il_eq (x y : Int32) : (x.toInt64 = y.toInt64) ↔ x = y := by
  rw [← Int64.toInt_inj, ← Int32.toInt_inj, Int32.toInt_toInt64, Int32.toInt_toInt64]
theorem cl_0 : zclamp 0 = 0 := by decide
theorem cl_1 : zclamp 1 = 1 := by decide
theorem r58_0 (s : zS) : zr_i s 58 (0 : Int32) = some (s.1 58 0) := rd_58 s 0 rfl (by decide)
theorem zenc_s {c : Nat} (h : c < 1000) : zenc c = c := by unfold zenc; rw [if_pos h]
theorem zenc_w : ∀ k, k < 7 → 1210 ≤ zenc (1000 + k) ∧ zenc (1000 + k) ≤ 1216 := by decide
/-- the class's step with two values -/
theorem op7 {c : Nat} {x y : Int32} {d : Nat} (kb : Int32 → Int32 → Int32 → zS → Option (Int32 × zS)) (v2 v4 : Int32) (s : zS) (hd : d + 2 ≤ 32) (hx : s.1 58 d = x) (hy : s.1 58 (d + 1) = y)
    (h : (c = 3000 ∨ c = 3001 ∨ c = 3002 ∨ c = 3003 ∨ c = 3004 ∨ c = 3005) ∨ ((c = 3007 ∨ c = 3008) ∧ (x = 0 ∨ x = 1) ∧ (y = 0 ∨ y = 1))) :
    f_X4_reckon_97 kb v2 (nI (d + 2)) v4 (nI (zenc c)) s = f_X4_reckon_360 kb v2 (nI (d + 1)) v4 (zs_i s 58 d (zbt c x y)) := by
  have e1 : nI (d + 2) + (-1 : Int32) = nI (d + 1) := pk_m1 _
  have e2 : nI (d + 1) - (1 : Int32) = nI d := nI_pred _
  have cl : ∀ w : Int64, f_X4_reckon_315 kb v2 (nI (d + 1)) v4 w s = f_X4_reckon_360 kb v2 (nI (d + 1)) v4 (zs_i s 58 d (zclamp w)) := by
    intro w
    unfold f_X4_reckon_315 f_X4_reckon_347 zclamp
    rw [e2]
    split
    · split
      · rw [wr_58 s d rfl (by omega)]; rfl
      · rw [wr_58 s d rfl (by omega)]; rfl
    · rw [wr_58 s d rfl (by omega)]; rfl
  have hne : ¬ nI (zenc c) = nI 1209 := by
    rcases h with (rfl | rfl | rfl | rfl | rfl | rfl) | ⟨rfl | rfl, -⟩ <;> decide
  rw [f_X4_reckon_97, if_pos hne, f_X4_reckon_131, if_neg (nI_nlt (by omega) (by omega)), zb_eq, e1, e2, rd_58 s d rfl (by omega), Option.bind_some, hx, zb_eq, rd_58 s (d + 1) rfl (by omega), Option.bind_some, hy, zb_eq]
  simp only [zb_eq, f_X4_reckon_312, f_X4_reckon_308, f_X4_reckon_313, cl]
  rcases h with (rfl | rfl | rfl | rfl | rfl | rfl) | ⟨rfl | rfl, hx2, hy2⟩
  · rfl
  · rfl
  · rfl
  · rw [show nI (zenc 3003) = nI 1109 from rfl, if_neg (by decide), if_neg (by decide), if_neg (by decide), if_neg (by decide), if_neg (by decide), if_neg (fun z => z rfl), zbt, if_pos rfl]
    by_cases e : x = y
    · rw [if_neg (fun z => z ((lg_eq0 _ _).mpr ((il_eq x y).mpr e))), if_pos e, cl_1]
    · rw [if_pos (fun z => e ((il_eq x y).mp ((lg_eq0 _ _).mp z))), if_neg e, cl_0]
  · rw [show nI (zenc 3004) = nI 1110 from rfl, if_neg (by decide), if_neg (by decide), if_neg (by decide), if_neg (by decide), if_neg (by decide), if_pos (by decide), if_neg (fun z => z rfl), zbt, if_neg (show ¬ 3004 = 3003 by decide), if_pos rfl]
    by_cases e : y ≤ x
    · rw [if_pos ((lg_cmp_ge _ _).mpr ((il_le y x).mpr e)), if_pos e, cl_0]
    · rw [if_neg (fun z => e ((il_le y x).mp ((lg_cmp_ge _ _).mp z))), if_neg e, cl_1]
  · rw [show nI (zenc 3005) = nI 1111 from rfl, if_neg (by decide), if_neg (by decide), if_neg (by decide), if_neg (by decide), if_neg (by decide), if_pos (by decide), if_pos (by decide), zbt, if_neg (show ¬ 3005 = 3003 by decide), if_neg (show ¬ 3005 = 3004 by decide), if_pos rfl]
    by_cases e : x ≤ y
    · rw [if_pos ((lg_le0 _ _).mpr ((il_le x y).mpr e)), if_pos e, cl_0]
    · rw [if_neg (fun z => e ((il_le x y).mp ((lg_le0 _ _).mp z))), if_neg e, cl_1]
  · rw [show nI (zenc 3007) = nI 1208 from rfl, if_neg (by decide), if_neg (by decide), if_neg (by decide), if_neg (by decide), if_pos rfl, show zclamp (x.toInt64 &&& y.toInt64) = zbt 3007 x y by rcases hx2 with rfl | rfl <;> rcases hy2 with rfl | rfl <;> decide]
  · rw [show nI (zenc 3008) = nI 1207 from rfl, if_neg (by decide), if_neg (by decide), if_neg (by decide), if_pos rfl, show zclamp (x.toInt64 ||| y.toInt64) = zbt 3008 x y by rcases hx2 with rfl | rfl <;> rcases hy2 with rfl | rfl <;> decide]
theorem reck7_loop {w C : Nat} {cs : List Nat} {env : Nat → Int32} (hC : C + cs.length ≤ 900) : ∀ (l : List Nat) (i n : Nat) (st : List Int32) (tl : List Bool) (b : Bool) (s : zS),
    (∀ i, i < cs.length → s.1 9 (C + i) = nI (zenc (cs.getD i 0))) → (∀ k, zword w (1000 + k) = true → s.1 59 (zenc (1000 + k) - 1210) = env k) →
    cs.drop i = l → i + l.length = cs.length → l.length < n → zty w l tl = some [b] → ztys tl st → zstk (s.1 58) st → st.length ≤ 32 →
    ∃ (v : Int32) (s' : zS), f_X4_reckon_5 n (nI (C + cs.length)) (nI st.length) (nI (C + i)) s = some (v, s') ∧ zk_k [58] s s' ∧ zev env l st = [v] := by
  intro l
  induction l with
  | nil =>
    intro i n st tl b s hs henv hd hi hn ht hty hk hl
    obtain ⟨n, rfl⟩ : ∃ q, n = q + 1 := ⟨n - 1, by simp at hn; omega⟩
    simp only [zty, Option.some.injEq] at ht
    subst ht
    cases st with
    | nil => exact absurd hty (by simp [ztys])
    | cons v st =>
      cases st with
      | cons y st => exact absurd hty.2 (by simp [ztys])
      | nil =>
        simp only [List.length_nil] at hi
        rw [f_X4_reckon_5, if_pos (nI_le (by omega) (by omega)), f_X4_reckon_366, r58_0, Option.bind_some]
        have e : s.1 58 0 = v := hk.1
        rw [e]
        exact ⟨v, s, rfl, zk_k.rf, rfl⟩
  | cons c l ih =>
    intro i n st tl b s hs henv hd hi hn ht hty hk hl
    simp only [List.length_cons] at hi hn
    obtain ⟨n, rfl⟩ : ∃ q, n = q + 1 := ⟨n - 1, by omega⟩
    have hc : cs.getD i 0 = c := by
      have : (cs.drop i)[0]? = some c := by rw [hd]; rfl
      rw [List.getElem?_drop] at this
      rw [List.getD_eq_getElem?_getD]
      simp only [Nat.add_zero] at this
      rw [this]; rfl
    have hd2 : cs.drop (i + 1) = l := by
      rw [← List.drop_drop, hd]; rfl
    have keep : ∀ (j : Nat) (v : Int32), (∀ i, i < cs.length → (zs_i s 58 j v).1 9 (C + i) = nI (zenc (cs.getD i 0))) ∧ (∀ k, zword w (1000 + k) = true → (zs_i s 58 j v).1 59 (zenc (1000 + k) - 1210) = env k) := by
      intro j v
      rw [zs_i_n _ _ _ _ _ (by decide : (9 : Nat) ≠ 58), zs_i_n _ _ _ _ _ (by decide : (59 : Nat) ≠ 58)]
      exact ⟨hs, henv⟩
    rw [f_X4_reckon_5, if_neg (nI_ge (by omega) (by omega)), if_neg (nI_ge (by omega) (by omega)), rd_9 s (C + i) rfl (by omega), Option.bind_some, hs i (by omega), hc]
    have push : ∀ (x : Int32), zty w l (false :: tl) = some [b] → st.length < 32 → ∃ (v : Int32) (s' : zS), f_X4_reckon_90 (f_X4_reckon_5 n) (nI (C + cs.length)) (nI st.length) (nI (C + i)) x (nI st.length) s = some (v, s') ∧ zk_k [58] s s' ∧ zev env l (x :: st) = [v] := by
      intro x ht2 hl2
      rw [f_X4_reckon_90, wr_58 s st.length rfl (by omega), Option.bind_some, zb_eq, f_X4_reckon_360, zb_eq, nI_1, nI_1]
      obtain ⟨k1, k2⟩ := keep st.length x
      obtain ⟨v, s', g1, g2, g3⟩ := ih (i + 1) n (x :: st) (false :: tl) b (zs_i s 58 st.length x) k1 k2 hd2 (by omega) (by omega) ht2 ⟨by simp, hty⟩ ⟨by rw [zs_i_v], by
        rw [zs_i_at]; exact zstk_up hk (Nat.le_refl _)⟩ (by simp only [List.length_cons]; omega)
      exact ⟨v, s', g1, (zk_k.rf.i (by simp)).tr g2, g3⟩
    rw [zty] at ht
    by_cases hwd : zword w c = true
    · rw [if_pos hwd] at ht
      have hlen := ztys_len hty
      by_cases hl2 : tl.length < 32
      · rw [if_pos hl2] at ht
        rcases zword_cases hwd with h1 | ⟨h1, h2⟩
        · rw [zenc_s h1, if_pos (nI_lt h1 (by omega)), f_X4_reckon_55, if_neg (nI_ge (by omega) (by omega)), if_neg (nI_ge h1 (by omega)), zev, if_pos h1]
          exact push (nI c) ht (by omega)
        · obtain ⟨k, rfl⟩ : ∃ k, c = 1000 + k := ⟨c - 1000, by omega⟩
          obtain ⟨q1, q2⟩ := zenc_w k (by omega)
          rw [if_neg (nI_nlt (by omega) (by omega)), if_neg (nI_nlt (by omega) (by omega)), if_neg (nI_nlt (by omega) (by omega)), f_X4_reckon_55, if_neg (nI_ge (by omega) (by omega)), if_pos (nI_le (by omega) (by omega)), pk_sub (by omega), rd_59 s (zenc (1000 + k) - 1210) rfl (by omega), Option.bind_some, zev, if_neg (by omega), if_pos (by omega), henv k hwd, show 1000 + k - 1000 = k by omega]
          exact push _ ht (by omega)
      · rw [if_neg hl2] at ht; cases ht
    rw [if_neg hwd] at ht
    by_cases h6 : c = 3006
    · subst h6
      rw [if_pos rfl] at ht
      rw [show nI (zenc 3006) = nI 1209 from rfl, if_neg (by decide), if_pos (by decide), zev, if_neg (by decide), if_neg (by decide), if_pos rfl]
      obtain ⟨tl, rfl, ht⟩ := zt1_some ht
      cases st with
      | nil => exact absurd hty (by simp [ztys])
      | cons x st =>
        simp only [List.length_cons] at hl ⊢
        have e1 : nI (st.length + 1) - (1 : Int32) = nI st.length := nI_pred _
        rw [f_X4_reckon_97, if_neg (fun z => z rfl), if_neg (show ¬ nI (st.length + 1) < (1 : Int32) from nlt_c 1 rfl (by omega) (by omega)), e1, rd_58 s st.length rfl (by omega), Option.bind_some, hk.1, wr_58 s st.length rfl (by omega), Option.bind_some, f_X4_reckon_360, zb_eq, nI_1]
        obtain ⟨k1, k2⟩ := keep st.length (1 - x)
        obtain ⟨v, s', g1, g2, g3⟩ := ih (i + 1) n ((1 - x) :: st) (true :: tl) b (zs_i s 58 st.length (1 - x)) k1 k2 hd2 (by omega) (by omega) ht ⟨fun _ => by
          rcases hty.1 rfl with e | e <;> rw [e] <;> decide, hty.2⟩ ⟨by rw [zs_i_v], by rw [zs_i_at]; exact zstk_up hk.2 (Nat.le_refl _)⟩ (by simp only [List.length_cons]; omega)
        exact ⟨v, s', g1, (zk_k.rf.i (by simp)).tr g2, g3⟩
    rw [if_neg h6] at ht
    have two : ∀ (x y : Int32) (r : List Int32) (t : Bool) (tr : List Bool), st = y :: x :: r → zty w l (t :: tr) = some [b] → ztys tr r → (t = true → zbt c x y = 0 ∨ zbt c x y = 1) →
        ((c = 3000 ∨ c = 3001 ∨ c = 3002 ∨ c = 3003 ∨ c = 3004 ∨ c = 3005) ∨ ((c = 3007 ∨ c = 3008) ∧ (x = 0 ∨ x = 1) ∧ (y = 0 ∨ y = 1))) →
        ∃ (v : Int32) (s' : zS), (if nI (zenc c) < (nI 1000) then (f_X4_reckon_55 (f_X4_reckon_5 n) (nI (C + cs.length)) (nI st.length) (nI (C + i)) (nI (zenc c)) s) else if nI (zenc c) < (nI 1210) then (f_X4_reckon_97 (f_X4_reckon_5 n) (nI (C + cs.length)) (nI st.length) (nI (C + i)) (nI (zenc c)) s) else if (nI 1216) < nI (zenc c) then (f_X4_reckon_97 (f_X4_reckon_5 n) (nI (C + cs.length)) (nI st.length) (nI (C + i)) (nI (zenc c)) s) else f_X4_reckon_55 (f_X4_reckon_5 n) (nI (C + cs.length)) (nI st.length) (nI (C + i)) (nI (zenc c)) s) = some (v, s') ∧ zk_k [58] s s' ∧ zev env (c :: l) st = [v] := by
      intro x y r t tr hst ht2 hty2 hv hcc
      have hcr : 3000 ≤ c ∧ c ≤ 3008 := by omega
      have hz : 1000 ≤ zenc c ∧ zenc c < 1210 := by
        rcases hcc with (rfl | rfl | rfl | rfl | rfl | rfl) | ⟨rfl | rfl, -⟩ <;> decide
      subst hst
      simp only [List.length_cons] at hl ⊢
      rw [if_neg (nI_nlt hz.1 (by omega)), if_pos (nI_lt hz.2 (by omega)), op7 (d := r.length) (x := x) (y := y) _ _ _ s (by omega) hk.2.1 hk.1 hcc, f_X4_reckon_360, zb_eq, nI_1]
      obtain ⟨k1, k2⟩ := keep r.length (zbt c x y)
      obtain ⟨v, s', g1, g2, g3⟩ := ih (i + 1) n (zbt c x y :: r) (t :: tr) b (zs_i s 58 r.length (zbt c x y)) k1 k2 hd2 (by omega) (by omega) ht2 ⟨hv, hty2⟩ ⟨by rw [zs_i_v], by rw [zs_i_at]; exact zstk_up hk.2.2 (Nat.le_refl _)⟩ (by simp only [List.length_cons]; omega)
      refine ⟨v, s', g1, (zk_k.rf.i (by simp)).tr g2, ?_⟩
      rw [zev, if_neg (by omega), if_neg (by omega), if_neg h6]
      exact g3
    have shape : ∀ (t1 t2 : Bool) (tr : List Bool), tl = t1 :: t2 :: tr → ∃ x y r, st = y :: x :: r ∧ (t1 = true → y = 0 ∨ y = 1) ∧ (t2 = true → x = 0 ∨ x = 1) ∧ ztys tr r := by
      intro t1 t2 tr e
      subst e
      cases st with
      | nil => exact absurd hty (by simp [ztys])
      | cons y st =>
        cases st with
        | nil => exact absurd hty.2 (by simp [ztys])
        | cons x r => exact ⟨x, y, r, rfl, hty.1, hty.2.1, hty.2.2⟩
    by_cases hA : c = 3000 ∨ c = 3001 ∨ c = 3002
    · rw [if_pos hA] at ht
      obtain ⟨tr, etl, ht⟩ := zt2_some ht
      obtain ⟨x, y, r, e, -, -, q3⟩ := shape _ _ _ etl
      exact two x y r false tr e ht q3 (by simp) (Or.inl (by omega))
    rw [if_neg hA] at ht
    by_cases hB : c = 3003 ∨ c = 3004 ∨ c = 3005
    · rw [if_pos hB] at ht
      obtain ⟨tr, etl, ht⟩ := zt2_some ht
      obtain ⟨x, y, r, e, -, -, q3⟩ := shape _ _ _ etl
      exact two x y r true tr e ht q3 (fun _ => btw_ty c x y (Or.inl hB)) (Or.inl (by omega))
    rw [if_neg hB] at ht
    by_cases hC2 : c = 3007 ∨ c = 3008
    · rw [if_pos hC2] at ht
      obtain ⟨tr, etl, ht⟩ := zt2_some ht
      obtain ⟨x, y, r, e, q1, q2, q3⟩ := shape _ _ _ etl
      exact two x y r true tr e ht q3 (fun _ => btw_ty c x y (Or.inr ⟨hC2, q2 rfl, q1 rfl⟩)) (Or.inr ⟨hC2, q2 rfl, q1 rfl⟩)
    rw [if_neg hC2] at ht
    cases ht
