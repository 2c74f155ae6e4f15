/-- a row of what was, of both -/
def RR (x y : Nat → Int32) (n : Nat) : Prop := (∀ p, p < n → x (3 * p) = y p ∧ x (3 * p + 1) = y (7 + p) ∧ x (3 * p + 2) = y (14 + p) ∧ (∃ g, g < 512 ∧ y (7 + p) = nI g) ∧ ∃ m, m < 10 ∧ y (14 + p) = nI m) ∧ zWV y n
def JU2 (s : zS) (n u : Nat) : Prop := u ≤ 10 ∧ s.1 77 43 = nI u ∧ s.1 73 3 = nI u ∧ ∀ r, r < u → RR (fun j => s.1 74 (21 * r + j)) (fun j => s.1 77 (44 + 21 * r + j)) n
theorem JUx.r {s : zS} {n u : Nat} (h : JUx s n u) : JU2 s n u := ⟨h.1, h.2.1, h.2.2.1, fun r hr => by
  have := h.2.2.2 r hr
  simp only [RR, ← Nat.add_assoc]
  exact this⟩
theorem JU2.x {s : zS} {n u : Nat} (h : JU2 s n u) : JUx s n u := ⟨h.1, h.2.1, h.2.2.1, fun r hr => by
  have := h.2.2.2 r hr
  simp only [RR, ← Nat.add_assoc] at this
  exact this⟩
theorem hold_7 (s : zS) : ∃ s', f_X2_hold s = some ((), s') ∧ zk_k [75] s s' ∧ ∀ p, p < 7 → s'.1 75 (3 * p) = s.1 8 p ∧ s'.1 75 (3 * p + 1) = s.1 4 p ∧ s'.1 75 (3 * p + 2) = s.1 5 p := by
  obtain ⟨q', t, g1, g2, g3⟩ := zlp (fun q i t => f_X2_hold_2 q (nI i) t) 7 (fun i t => zk_k [75] s t ∧ ∀ p, p < i → t.1 75 (3 * p) = s.1 8 p ∧ t.1 75 (3 * p + 1) = s.1 4 p ∧ t.1 75 (3 * p + 2) = s.1 5 p)
    (fun q i t hi h => by
      show ∃ a', f_X2_hold_2 (q + 1) (nI i) t = f_X2_hold_2 q (nI (i + 1)) a' ∧ _
      rw [f_X2_hold_2, if_neg (nI_ge hi (by omega)), rd_8 t i rfl hi, Option.bind_some, wr_75 t (3 * i) (pk_mul _ _) (by omega), Option.bind_some, rd_4 _ i rfl hi, Option.bind_some, wr_75 _ (3 * i + 1) (by rw [pk_mul]; exact nI_1 _) (by omega), Option.bind_some, rd_5 _ i rfl hi, Option.bind_some, wr_75 _ (3 * i + 2) (by rw [pk_mul, nI_add]) (by omega), Option.bind_some, zb_eq, nI_1, zs_i_n _ _ _ _ _ (by decide : (4 : Nat) ≠ 75), zs_i_n _ _ _ _ _ (by decide : (5 : Nat) ≠ 75), zs_i_n _ _ _ _ _ (by decide : (5 : Nat) ≠ 75), (h.1 8 (by decide)).1, (h.1 4 (by decide)).1, (h.1 5 (by decide)).1]
      refine ⟨_, rfl, ((h.1.i (by simp)).i (by simp)).i (by simp), fun p hp => ?_⟩
      by_cases e : p = i
      · subst e
        refine ⟨?_, ?_, zs_i_v _ _ _ _⟩
        · rw [zs_i_o _ _ _ _ _ (by omega), zs_i_o _ _ _ _ _ (by omega), zs_i_v]
        · rw [zs_i_o _ _ _ _ _ (by omega), zs_i_v]
      · obtain ⟨h1, h2, h3⟩ := h.2 p (by omega)
        refine ⟨?_, ?_, ?_⟩
        · rw [zs_i_o _ _ _ _ _ (by omega), zs_i_o _ _ _ _ _ (by omega), zs_i_o _ _ _ _ _ (by omega)]; exact h1
        · rw [zs_i_o _ _ _ _ _ (by omega), zs_i_o _ _ _ _ _ (by omega), zs_i_o _ _ _ _ _ (by omega)]; exact h2
        · rw [zs_i_o _ _ _ _ _ (by omega), zs_i_o _ _ _ _ _ (by omega), zs_i_o _ _ _ _ _ (by omega)]; exact h3) 7 0 zFU s (by decide) (by decide) ⟨zk_k.rf, fun p hp => by omega⟩
  have g1' : f_X2_hold s = f_X2_hold_2 (q' + 1) (nI 7) t := g1
  rw [g1', f_X2_hold_2, if_pos (nI_le (Nat.le_refl _) (by decide))]
  exact ⟨t, rfl, g2, g3⟩
/-- how a row comes behind the others -/
def zup1 (u : Nat) : Nat := if u < 10 then u + 1 else 10
theorem keep_7 {s : zS} {u : Nat} (hu : u ≤ 10) (h3 : s.1 73 3 = nI u) : ∃ s', f_X2_keep s = some ((), s') ∧ zk_k [73, 74] s s' ∧ s'.1 73 3 = nI (zup1 u) ∧ ∀ r, r < zup1 u → ∀ j, j < 21 → s'.1 74 (21 * r + j) = if r + 1 = zup1 u then s.1 75 j else if u < 10 then s.1 74 (21 * r + j) else s.1 74 (21 * (r + 1) + j) := by
  unfold f_X2_keep f_X2_keep_36
  rw [h3]
  by_cases h : u < 10
  · have eu : zup1 u = u + 1 := if_pos h
    rw [eu]
    rw [if_pos (nI_lt h (by omega)), wc_ok (x := (0 : Int32)) (sp := 0) (dp := u * 21) (m := 21) zd_75 zd_74 zn_75 zn_74 rfl (pk_mul _ _) rfl (by omega) (by omega) (by omega) (by omega) (by omega), Option.bind_some, zb_eq, ((zsc_k (S := [74]) (by simp)) 73 (by decide)).1, h3, nI_1]
    refine ⟨_, rfl, ((zsc_k (by simp)).i (by simp)), by rw [zs_i_v], fun r hr j hj => ?_⟩
    rw [zs_i_n _ _ _ _ _ (by decide)]
    by_cases e : r = u
    · subst e; rw [if_pos rfl, zsc_in (by omega) (by omega)]; exact congrArg (s.1 75) (by omega)
    · rw [if_neg (by omega), if_pos h, zsc_out (by omega)]
  · have e10 : u = 10 := by omega
    subst e10
    have eu : zup1 10 = 10 := rfl
    rw [eu]
    rw [if_neg (by decide), zb_eq, zs_i_v, wc_ok (y := (0 : Int32)) (sp := 21) (dp := 0) (m := 189) zd_74 zd_74 zn_74 zn_74 rfl rfl (pk_mul 9 21) (by decide) (by decide) (by decide) (by decide) (by decide), Option.bind_some, ((zsc_k (S := [74]) (by simp)) 73 (by decide)).1, zs_i_v, wc_ok (x := (0 : Int32)) (sp := 0) (dp := 9 * 21) (m := 21) zd_75 zd_74 zn_75 zn_74 rfl (pk_mul _ _) rfl (by decide) (by decide) (by decide) (by decide) (by decide), Option.bind_some, zb_eq, ((zsc_k (S := [74]) (by simp)) 73 (by decide)).1, ((zsc_k (S := [74]) (by simp)) 73 (by decide)).1, zs_i_v, nI_1]
    refine ⟨_, rfl, ?_, by rw [zs_i_v], fun r hr j hj => ?_⟩
    · exact (((zk_k.rf.i (by simp)).tr (zsc_k (by simp))).tr (zsc_k (by simp))).i (by simp)
    · rw [zs_i_n _ _ _ _ _ (by decide)]
      by_cases e : r = 9
      · subst e
        rw [if_pos rfl, zsc_in (by omega) (by omega), ((zsc_k (S := [74]) (by simp)) 75 (by decide)).1, zs_i_n _ _ _ _ _ (by decide)]; exact congrArg (s.1 75) (by omega)
      · rw [if_neg (by omega), if_neg (Nat.lt_irrefl 10), zsc_out (by omega), zsc_in (by omega) (by omega), zs_i_n _ _ _ _ _ (by decide)]; exact congrArg (s.1 74) (by omega)
theorem keeps_8 (s : zS) : ∃ s', f_X8_keeps s = some ((), s') ∧ zk_k [90] s s' ∧ ∀ k, k < 21 → s'.1 90 k = s.1 77 (22 + k) := by
  obtain ⟨q', t, g1, g2, g3⟩ := zlp (fun q i t => f_X8_keeps_2 q (nI i) t) 21 (fun i t => zk_k [90] s t ∧ ∀ k, k < i → t.1 90 k = s.1 77 (22 + k))
    (fun q i t hi h => by
      show ∃ a', f_X8_keeps_2 (q + 1) (nI i) t = f_X8_keeps_2 q (nI (i + 1)) a' ∧ _
      rw [f_X8_keeps_2, if_neg (nI_ge hi (by omega)), rd_77 t (22 + i) (nI_add _ _) (by omega), Option.bind_some, wr_90 t i rfl hi, Option.bind_some, zb_eq, nI_1, (h.1 77 (by decide)).1]
      refine ⟨_, rfl, h.1.i (by simp), fun k hk => ?_⟩
      by_cases e : k = i
      · subst e; rw [zs_i_v]
      · rw [zs_i_o _ _ _ _ _ e]; exact h.2 k (by omega)) 21 0 zFU s (by decide) (by decide) ⟨zk_k.rf, fun k hk => by omega⟩
  have g1' : f_X8_keeps s = f_X8_keeps_2 (q' + 1) (nI 21) t := g1
  rw [g1', f_X8_keeps_2, if_pos (nI_le (Nat.le_refl _) (by decide))]
  exact ⟨t, rfl, g2, g3⟩
theorem again_8 (s : zS) : ∃ s', f_X8_isAgain s = some ((), s') ∧ zk_k [77] s s' ∧ (∀ k, k < 21 → s'.1 77 (22 + k) = s.1 90 k) ∧ ∀ j, (j < 22 ∨ 43 ≤ j) → s'.1 77 j = s.1 77 j := by
  obtain ⟨q', t, g1, g2, g3, g4⟩ := zlp (fun q i t => f_X8_isAgain_2 q (nI i) t) 21 (fun i t => zk_k [77] s t ∧ (∀ k, k < i → t.1 77 (22 + k) = s.1 90 k) ∧ ∀ j, (j < 22 ∨ 43 ≤ j) → t.1 77 j = s.1 77 j)
    (fun q i t hi h => by
      show ∃ a', f_X8_isAgain_2 (q + 1) (nI i) t = f_X8_isAgain_2 q (nI (i + 1)) a' ∧ _
      rw [f_X8_isAgain_2, if_neg (nI_ge hi (by omega)), rd_90 t i rfl hi, Option.bind_some, wr_77 t (22 + i) (nI_add _ _) (by omega), Option.bind_some, zb_eq, nI_1, (h.1 90 (by decide)).1]
      refine ⟨_, rfl, h.1.i (by simp), fun k hk => ?_, fun j hj => by rw [zs_i_o _ _ _ _ _ (by omega)]; exact h.2.2 j hj⟩
      by_cases e : k = i
      · subst e; rw [zs_i_v]
      · rw [zs_i_o _ _ _ _ _ (by omega)]; exact h.2.1 k (by omega)) 21 0 zFU s (by decide) (by decide) ⟨zk_k.rf, fun k hk => by omega, fun _ _ => rfl⟩
  have g1' : f_X8_isAgain s = f_X8_isAgain_2 (q' + 1) (nI 21) t := g1
  rw [g1', f_X8_isAgain_2, if_pos (nI_le (Nat.le_refl _) (by decide))]
  exact ⟨t, rfl, g2, g3, g4⟩
theorem notes_58 {s : zS} {u : Nat} (hu : u < 10) (h43 : s.1 77 43 = nI u) : ∃ s', f_X8_notes_56 s = some ((), s') ∧ zk_k [77] s s' ∧ s'.1 77 43 = nI (u + 1) ∧ (∀ j, j < 21 → s'.1 77 (44 + 21 * u + j) = s.1 90 j) ∧ ∀ j, j ≠ 43 → (j < 44 + 21 * u ∨ 44 + 21 * u + 21 ≤ j) → s'.1 77 j = s.1 77 j := by
  obtain ⟨q', t, g1, g2, g3, g4, g5⟩ := zlp (fun q i t => f_X8_notes_58 q (nI i) t) 21 (fun i t => zk_k [77] s t ∧ t.1 77 43 = nI u ∧ (∀ j, j < i → t.1 77 (44 + 21 * u + j) = s.1 90 j) ∧ ∀ j, j ≠ 43 → (j < 44 + 21 * u ∨ 44 + 21 * u + 21 ≤ j) → t.1 77 j = s.1 77 j)
    (fun q i t hi h => by
      show ∃ a', f_X8_notes_58 (q + 1) (nI i) t = f_X8_notes_58 q (nI (i + 1)) a' ∧ _
      rw [f_X8_notes_58, if_neg (nI_ge hi (by omega)), rd_77 t 43 rfl (by decide), Option.bind_some, h.2.1, rd_90 t i rfl hi, Option.bind_some, wr_77 t (44 + 21 * u + i) (by rw [pk_mul, nI_add, nI_add]) (by omega), Option.bind_some, zb_eq, nI_1, (h.1 90 (by decide)).1]
      refine ⟨_, rfl, h.1.i (by simp), by rw [zs_i_o _ _ _ _ _ (by omega)]; exact h.2.1, fun j hj => ?_, fun j h1 h2 => by rw [zs_i_o _ _ _ _ _ (by omega)]; exact h.2.2.2 j h1 h2⟩
      by_cases e : j = i
      · subst e; rw [zs_i_v]
      · rw [zs_i_o _ _ _ _ _ (by omega)]; exact h.2.2.1 j (by omega)) 21 0 zFU s (by decide) (by decide) ⟨zk_k.rf, h43, fun j hj => by omega, fun _ _ _ => rfl⟩
  have g1' : f_X8_notes_56 s = f_X8_notes_58 (q' + 1) (nI 21) t := g1
  rw [g1', f_X8_notes_58, if_pos (nI_le (Nat.le_refl _) (by decide)), rd_77 t 43 rfl (by decide), Option.bind_some, g3, nI_1, wr_77 t 43 rfl (by decide), Option.bind_some]
  exact ⟨_, rfl, g2.i (by simp), zs_i_v _ _ _ _, fun j hj => by rw [zs_i_o _ _ _ _ _ (by omega)]; exact g4 j hj, fun j h1 h2 => by rw [zs_i_o _ _ _ _ _ h1]; exact g5 j h1 h2⟩
theorem notes_8 {s : zS} {u : Nat} (hu : u ≤ 10) (h43 : s.1 77 43 = nI u) : ∃ s', f_X8_notes s = some ((), s') ∧ zk_k [77] s s' ∧ s'.1 77 43 = nI (zup1 u) ∧ (∀ r, r < zup1 u → ∀ j, j < 21 → s'.1 77 (44 + 21 * r + j) = if r + 1 = zup1 u then s.1 90 j else if u < 10 then s.1 77 (44 + 21 * r + j) else s.1 77 (44 + 21 * (r + 1) + j)) ∧ ∀ j, (j < 43 ∨ 254 ≤ j) → s'.1 77 j = s.1 77 j := by
  rw [f_X8_notes, rd_77 s 43 rfl (by decide), Option.bind_some, h43]
  by_cases h : u < 10
  · obtain ⟨s1, a1, a2, a3, a4, a5⟩ := notes_58 h h43
    have eu : zup1 u = u + 1 := if_pos h
    rw [eu, if_pos (ne_of_nI (by omega) (by omega) (by decide)), a1]
    refine ⟨s1, rfl, a2, a3, fun r hr j hj => ?_, fun j hj => a5 j (by omega) (by omega)⟩
    by_cases e : r = u
    · subst e; rw [if_pos rfl]; exact a4 j hj
    · rw [if_neg (by omega), if_pos h]; exact a5 _ (by omega) (by omega)
  · have e10 : u = 10 := by omega
    subst e10
    have eu : zup1 10 = 10 := rfl
    rw [eu, if_neg (fun z => z rfl)]
    obtain ⟨q', t, g1, g2, g3, g4⟩ := zlp (fun q i t => f_X8_notes_14 q (nI i) t) 189 (fun i t => zk_k [77] s t ∧ (∀ j, j < i → t.1 77 (44 + j) = s.1 77 (65 + j)) ∧ ∀ j, (j < 44 ∨ 44 + i ≤ j) → t.1 77 j = s.1 77 j)
      (fun q i t hi h => by
        show ∃ a', f_X8_notes_14 (q + 1) (nI i) t = f_X8_notes_14 q (nI (i + 1)) a' ∧ _
        rw [f_X8_notes_14, if_neg (nI_ge hi (by omega)), rd_77 t (65 + i) (nI_add _ _) (by omega), Option.bind_some, h.2.2 (65 + i) (by omega), wr_77 t (44 + i) (nI_add _ _) (by omega), Option.bind_some, zb_eq, nI_1]
        refine ⟨_, rfl, h.1.i (by simp), fun j hj => ?_, fun j hj => by rw [zs_i_o _ _ _ _ _ (by omega)]; exact h.2.2 j (by omega)⟩
        by_cases e : j = i
        · subst e; rw [zs_i_v]
        · rw [zs_i_o _ _ _ _ _ (by omega)]; exact h.2.1 j (by omega)) 189 0 zFU s (by decide) (by decide) ⟨zk_k.rf, fun j hj => by omega, fun _ _ => rfl⟩
    have g1' : f_X8_notes_14 zFU 0 s = f_X8_notes_14 (q' + 1) (nI 189) t := g1
    rw [g1', f_X8_notes_14, if_pos (nI_le (Nat.le_refl _) (by decide)), rd_77 t 43 rfl (by decide), Option.bind_some, g4 43 (by omega), h43, show nI 10 - (1 : Int32) = nI 9 from nI_pred 9, wr_77 t 43 rfl (by decide), Option.bind_some]
    obtain ⟨s1, a1, a2, a3, a4, a5⟩ := notes_58 (s := zs_i t 77 43 (nI 9)) (u := 9) (by decide) (zs_i_v _ _ _ _)
    have k2 : zk_k [77] s (zs_i t 77 43 (nI 9)) := g2.i (by simp)
    rw [a1]
    refine ⟨s1, rfl, k2.tr a2, a3, fun r hr j hj => ?_, fun j hj => ?_⟩
    · by_cases e : r = 9
      · subst e; rw [if_pos rfl, a4 j hj, (k2 90 (by decide)).1]
      · rw [if_neg (by omega), if_neg (Nat.lt_irrefl 10), a5 _ (by omega) (by omega), zs_i_o _ _ _ _ _ (by omega), show 44 + 21 * r + j = 44 + (21 * r + j) by omega, g3 _ (by omega)]
        exact congrArg (s.1 77) (by omega)
    · rw [a5 j (by omega) (by omega), zs_i_o _ _ _ _ _ (by omega), g4 j (by omega)]
/-- both keep what was -/
theorem JU2.up {s t : zS} {n u : Nat} {y : Nat → Int32} (h : JU2 s n u) (h7 : ∀ r, r < zup1 u → ∀ j, j < 21 → t.1 74 (21 * r + j) = if r + 1 = zup1 u then y j else if u < 10 then s.1 74 (21 * r + j) else s.1 74 (21 * (r + 1) + j)) {z : Nat → Int32} (h8 : ∀ r, r < zup1 u → ∀ j, j < 21 → t.1 77 (44 + 21 * r + j) = if r + 1 = zup1 u then z j else if u < 10 then s.1 77 (44 + 21 * r + j) else s.1 77 (44 + 21 * (r + 1) + j)) (hn : n ≤ 7) (e43 : t.1 77 43 = nI (zup1 u)) (e73 : t.1 73 3 = nI (zup1 u)) (hyz : RR y z n) : JU2 t n (zup1 u) := by
  have congr : ∀ {x x2 y y2 : Nat → Int32}, (∀ j, j < 21 → x2 j = x j) → (∀ j, j < 21 → y2 j = y j) → RR x y n → RR x2 y2 n := fun {x x2 y y2} hx hy h => by
    refine ⟨fun p hp => ?_, fun p hp => ?_⟩
    · obtain ⟨a1, a2, a3, a4, a5⟩ := h.1 p hp
      rw [hx _ (by omega), hx _ (by omega), hx _ (by omega), hy _ (by omega), hy _ (by omega), hy _ (by omega)]
      exact ⟨a1, a2, a3, a4, a5⟩
    · rw [hy _ (by omega)]
      rcases h.2 p hp with e | ⟨q, q1, q2, q3, q4⟩
      · exact Or.inl e
      · exact Or.inr ⟨q, q1, q2, q3, by rw [hy _ (by omega)]; exact q4⟩
  refine ⟨by unfold zup1; split <;> omega, e43, e73, fun r hr => ?_⟩
  have hu := h.1
  by_cases e : r + 1 = zup1 u
  · exact congr (fun j hj => by rw [h7 r hr j hj, if_pos e]) (fun j hj => by rw [h8 r hr j hj, if_pos e]) hyz
  · by_cases h10 : u < 10
    · have hru : r < u := by unfold zup1 at hr e; rw [if_pos h10] at hr e; omega
      exact congr (fun j hj => by rw [h7 r hr j hj, if_neg e, if_pos h10]) (fun j hj => by rw [h8 r hr j hj, if_neg e, if_pos h10]) (h.2.2.2 r hru)
    · have hru : r + 1 < u := by unfold zup1 at hr e; rw [if_neg h10] at hr e; omega
      exact congr (fun j hj => by rw [h7 r hr j hj, if_neg e, if_neg h10]) (fun j hj => by rw [h8 r hr j hj, if_neg e, if_neg h10]) (h.2.2.2 (r + 1) hru)
