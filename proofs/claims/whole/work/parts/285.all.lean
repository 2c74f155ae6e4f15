section ALL
/-- what holds between calls -/
def JJ (m : Nat) (s : zS) : Prop := JT s ∧ JF s ∧ JY s ∧ JIx s ∧ s.1 93 0 = 0 ∧ ∃ (n : Nat) (G M H D : Nat → Nat) (c0 c1 : List Nat) (u : Nat) (A B : Nat → Nat), SOC1 s n G M H D c0 c1 u A B ∧ ∀ j, A j ≤ 1 + 100 * m ∧ B j ≤ 1 + 100 * m
theorem JT.kp {s t : zS} {S : List Nat} (h : JT s) (hk : zk_k S s t) (hd : ∀ k, k ∈ [0, 1, 79] → k ∉ S) (h5 : t.1 76 5 = s.1 76 5) : JT t := by
  obtain ⟨q, h1, h2, h3, h4⟩ := h
  refine ⟨q, h1, by rw [(hk 0 (hd 0 (by decide))).1]; exact h2, h5.trans h3, fun i hi => ?_⟩
  rw [(hk 79 (hd 79 (by decide))).1, (hk 1 (hd 1 (by decide))).1]
  exact h4 i hi
theorem JF.kp {s t : zS} {S : List Nat} (h : JF s) (hk : zk_k S s t) (hd : 30 ∉ S) (h13 : t.1 76 13 = s.1 76 13) (h14 : t.1 76 14 = s.1 76 14) : JF t := ⟨by rw [(hk 30 hd).1, h13]; exact h.1, by rw [(hk 30 hd).1, h14]; exact h.2⟩
theorem AB_m {A B : Nat → Nat} {m : Nat} (hm : m < 512) (h : ∀ j, A j ≤ 1 + 100 * m ∧ B j ≤ 1 + 100 * m) : AB A B 100 := fun j _ => by
  have := h j
  omega
theorem AG_m {A B A2 B2 : Nat → Nat} {m : Nat} (h : ∀ j, A j ≤ 1 + 100 * m ∧ B j ≤ 1 + 100 * m) (hg : AG A B A2 B2 100) : ∀ j, A2 j ≤ 1 + 100 * (m + 1) ∧ B2 j ≤ 1 + 100 * (m + 1) := fun j => by
  have := h j
  have := hg j
  omega
theorem up_m {A B : Nat → Nat} {m : Nat} (h : ∀ j, A j ≤ 1 + 100 * m ∧ B j ≤ 1 + 100 * m) : ∀ j, A j ≤ 1 + 100 * (m + 1) ∧ B j ≤ 1 + 100 * (m + 1) := fun j => by
  have := h j
  omega
theorem JJ_up : ∀ n s, JJ n s → JJ (n + 1) s := fun m s h => by
  obtain ⟨hT, hF, hY, hI, h93, n, G, M, H, D, c0, c1, u, A, B, hS, hAB⟩ := h
  exact ⟨hT, hF, hY, hI, h93, n, G, M, H, D, c0, c1, u, A, B, hS, up_m hAB⟩
theorem zag_ne0 : ∀ m, m < 128 → 1 ≤ m → ¬ 0 = zag (fun _ => 1) m := by decide +kernel
theorem CA_0 {cur : Nat} {P : Prop} (h : ¬ 0 = cur) : CA 0 cur P := ⟨0, rfl, Nat.zero_le _, fun z => absurd z h⟩
theorem JJ_0 : JJ 0 zs_0 := by
  have hlaw : ∀ w, w < 2 → zRL (zs_0.1 77) (zs_0.1 3) (zs_0.1 9) w [] := fun w hw => by
    rcases (show w = 0 ∨ w = 1 by omega) with q | q
    · subst q; exact Or.inl ⟨by decide, rfl, rfl⟩
    · subst q; exact Or.inl ⟨by decide, rfl, rfl⟩
  have hN : JNx zs_0 0 (fun _ => 0) (fun _ => 0) (fun _ => 0) (fun _ => 0) [] [] := ⟨⟨by decide, by decide, rfl, by decide⟩, fun p hp => absurd hp (Nat.not_lt_zero _), fun p hp => absurd hp (Nat.not_lt_zero _), hlaw 0 (by decide), hlaw 1 (by decide)⟩
  have hA : JA zs_0 (fun _ => 1) (fun _ => 0) := fun p hp => ⟨by
    show (if p < 7 then (1 : Int32) else 0) = nI 1
    rw [if_pos hp]; rfl, rfl, Nat.le_refl _, show 1 < 2 ^ 24 by decide, show 0 < 2 ^ 24 by decide⟩
  refine ⟨⟨0, by decide, rfl, rfl, fun i hi => absurd hi (Nat.not_lt_zero _)⟩, ⟨rfl, rfl⟩, fun t ht => ⟨rfl, Or.inl ?_⟩, ⟨fun i _ => ⟨rfl, Or.inl rfl⟩, fun z => absurd z (by decide), fun z => absurd z (by decide)⟩, rfl, 0, fun _ => 0, fun _ => 0, fun _ => 0, fun _ => 0, [], [], 0, fun _ => 1, fun _ => 0, ⟨hN, ⟨by decide, by decide, rfl, fun r hr => absurd hr (Nat.not_lt_zero _)⟩, ⟨⟨hN.k, hA, fun p q _ _ => CA_0 (show ¬ 0 = 1 + 1 by decide), fun m h1 h2 => CA_0 (zag_ne0 m h2 h1), fun j _ => rfl⟩, fun m h1 h2 => CA_0 (zag_ne0 m h2 h1), fun p q _ _ _ => CA_0 (show ¬ 0 = 1 + 0 + (1 + 0) by decide)⟩, CA_0 (by decide), CA_0 (by decide), CA_0 (by decide)⟩, fun j => ⟨by simp only []; omega, by simp only []; omega⟩⟩
  rcases (show t = 0 ∨ t = 1 ∨ t = 2 ∨ t = 3 by omega) with q | q | q | q <;> subst q <;> rfl
/-- queries -/
theorem jq {f g : zS → Option (Int32 × zS)} (h : ∀ (s : zS) (n : Nat) (G M H D : Nat → Nat) (c0 c1 : List Nat) (A B : Nat → Nat), JNx s n G M H D c0 c1 → JK s n G M H c0 c1 A B → JY s → s.1 93 0 = 0 → QR f g s n G M H c0 c1 A B) : zJ_op JJ f g := fun m s hm hJ => by
  obtain ⟨hT, hF, hY, hI, h93, n, G, M, H, D, c0, c1, u, A, B, ⟨hN, hU, hK⟩, hAB⟩ := hJ
  obtain ⟨r, s1, s2, e1, e2, k1, z1, z2, z3⟩ := h s n G M H D c0 c1 A B hN hK hY h93
  have kk : zk_k (76 :: (CC ++ MC)) s s2 := (z1.mono (by decide)).tr (z2.1.mono (by decide))
  have e76 : s1.1 76 = s.1 76 := (z1 76 (by decide)).1
  refine ⟨r, s1, s2, e1, e2, hT.kp kk (by decide) (by rw [z2.2.1, e76]), hF.kp kk (by decide) (by rw [z2.2.2.1, e76]) (by rw [z2.2.2.2.1, e76]), hY.keep kk (by decide), hI.same kk (by decide) (fun j _ => by rw [(kk 77 (by decide)).1]), by rw [z3, (z1 93 (by decide)).1]; exact h93, n, G, M, H, D, c0, c1, u, A, B, ⟨hN.keep kk (by decide), hU.same hN.1.1 (by rw [(kk 73 (by decide)).1]) (by rw [(kk 74 (by decide)).1]) (fun j _ _ => by rw [(kk 77 (by decide)).1]), k1.keep z2.1 (by decide)⟩, up_m hAB⟩
/-- deeds -/
theorem jo {f g : zS → Option (Int32 × zS)} (h : ∀ (s : zS) (n : Nat) (G M H D : Nat → Nat) (c0 c1 : List Nat) (u : Nat) (A B : Nat → Nat), JNx s n G M H D c0 c1 → JK s n G M H c0 c1 A B → JU2 s n u → JY s → AB A B 100 → OR f g s n H D c0 c1 A B) : zJ_op JJ f g := fun m s hm hJ => by
  obtain ⟨hT, hF, hY, hI, h93, n, G, M, H, D, c0, c1, u, A, B, ⟨hN, hU, hK⟩, hAB⟩ := hJ
  obtain ⟨r, s1, s2, G2, M2, u2, A2, B2, e1, e2, hN2, hK2, hU2, hg, hO⟩ := h s n G M H D c0 c1 u A B hN hK hU hY (AB_m hm hAB)
  have kk := hO.1.1
  exact ⟨r, s1, s2, e1, e2, hT.kp kk (by decide) hO.1.2.1, hF.kp kk (by decide) hO.1.2.2.1 hO.1.2.2.2, hY.keep kk (by decide), hI.same kk (by decide) (fun j hj => hO.2.1 j (by omega)), hO.2.2.trans h93, n, G2, M2, H, D, c0, c1, u2, A2, B2, ⟨hN2, hU2, hK2⟩, AG_m hAB hg⟩
theorem ji {f g : zS → Option (Int32 × zS)} (h : ∀ (s : zS) (n : Nat) (G M H D : Nat → Nat) (c0 c1 : List Nat) (u : Nat) (A B : Nat → Nat), SOC1 s n G M H D c0 c1 u A B → JIx s → AB A B 1 → IR f g s A B) : zJ_op JJ f g := fun m s hm hJ => by
  obtain ⟨hT, hF, hY, hI, h93, n, G, M, H, D, c0, c1, u, A, B, hS, hAB⟩ := hJ
  have hab := AB_m hm hAB
  obtain ⟨r, s1, s2, n2, G2, M2, H2, D2, d0, d1, u2, A2, B2, e1, e2, hS2, hg, hI2, hR⟩ := h s n G M H D c0 c1 u A B hS hI (fun j hj => by have := hab j hj; omega)
  obtain ⟨⟨r1, r2, r3, r4⟩, ⟨r5, r6, r7⟩, ⟨y1, y2, y3, y4, y5, y6⟩, y7⟩ := hR
  refine ⟨r, s1, s2, e1, e2, ?_, ⟨by rw [r5, r6]; exact hF.1, by rw [r5, r7]; exact hF.2⟩, ?_, hI2, y7.trans h93, n2, G2, M2, H2, D2, d0, d1, u2, A2, B2, hS2, AG_m hAB hg⟩
  · obtain ⟨q, q1, q2, q3, q4⟩ := hT
    exact ⟨q, q1, by rw [r1]; exact q2, by rw [r4]; exact q3, fun i hi => by rw [r2, r3]; exact q4 i hi⟩
  · unfold JY
    rw [y1, y2, y3, y4, y5, y6]
    exact hY
theorem js (x : Int32) : zJ_op JJ (f_X7_society x) (f_X8_society x) := fun m s hm hJ => by
  obtain ⟨hT, hF, hY, hI, h93, n, G, M, H, D, c0, c1, u, A, B, hS, hAB⟩ := hJ
  have hab := AB_m hm hAB
  obtain ⟨r, s1, s2, n2, G2, M2, H2, D2, d0, d1, u2, A2, B2, e1, e2, hS2, hg, hI2, hT2, hF2, ⟨y1, y2, y3, y4, y5, y6⟩, y7⟩ := q_society hS hI hT hF (fun j hj => by have := hab j hj; omega) x
  refine ⟨r, s1, s2, e1, e2, hT2, hF2, ?_, hI2, y7.trans h93, n2, G2, M2, H2, D2, d0, d1, u2, A2, B2, hS2, AG_m hAB hg⟩
  unfold JY
  rw [y1, y2, y3, y4, y5, y6]
  exact hY
theorem jl (x y : Int32) : zJ_op JJ (f_X7_lists x y) (f_X8_lists x y) := fun m s hm hJ => by
  obtain ⟨hT, hF, hY, hI, h93, n, G, M, H, D, c0, c1, u, A, B, ⟨hN, hU, hK⟩, hAB⟩ := hJ
  obtain ⟨r, s1, s2, e1, e2, k1, z1, z2, z3, hY2⟩ := q_lists hN hK hY x y
  have kk : zk_k (76 :: 71 :: 99 :: (CC ++ MC)) s s2 := (z1.mono (by decide)).tr (z2.1.mono (by decide))
  have e76 : s1.1 76 = s.1 76 := (z1 76 (by decide)).1
  exact ⟨r, s1, s2, e1, e2, hT.kp kk (by decide) (by rw [z2.2.1, e76]), hF.kp kk (by decide) (by rw [z2.2.2.1, e76]) (by rw [z2.2.2.2.1, e76]), hY2, hI.same kk (by decide) (fun j _ => by rw [(kk 77 (by decide)).1]), by rw [z3, (z1 93 (by decide)).1]; exact h93, n, G, M, H, D, c0, c1, u, A, B, ⟨hN.keep kk (by decide), hU.same hN.1.1 (by rw [(kk 73 (by decide)).1]) (by rw [(kk 74 (by decide)).1]) (fun j _ _ => by rw [(kk 77 (by decide)).1]), k1.keep z2.1 (by decide)⟩, up_m hAB⟩
theorem jfeed (a b c d e : Int32) : zJ_op JJ (f_X7_feed a b c d e) (f_X8_feed a b c d e) := fun m s hm hJ => by
  obtain ⟨hT, hF, hY, hI, h93, n, G, M, H, D, c0, c1, u, A, B, hS, hAB⟩ := hJ
  obtain ⟨r, s1, s2, e1, e2, z1, z2, z3, hT2⟩ := op_feed a b c d e s hT
  have kk : zk_k [0, 1, 76, 79] s s2 := (z1.mono (by decide)).tr (z2.mono (by decide))
  have e76 : s1.1 76 = s.1 76 := (z1 76 (by decide)).1
  exact ⟨r, s1, s2, e1, e2, hT2, hF.kp kk (by decide) (by rw [z3 13 (by decide) (by decide), e76]) (by rw [z3 14 (by decide) (by decide), e76]), hY.keep kk (by decide), hI.same kk (by decide) (fun j _ => by rw [(kk 77 (by decide)).1]), by rw [(kk 93 (by decide)).1]; exact h93, n, G, M, H, D, c0, c1, u, A, B, hS.same kk (by decide) (fun j _ => by rw [(kk 77 (by decide)).1]), up_m hAB⟩
theorem jm {ρ : Type} {f g : zS → Option (ρ × zS)} (h : ∀ s, JJ 512 s → ∃ r s2, f s = some (r, s) ∧ g s = some (r, s2) ∧ zk_m [] s s2) : zJ_op JJ f g := fun m s hm hJ => by
  have h512 : JJ 512 s := by
    obtain ⟨hT, hF, hY, hI, h93, n, G, M, H, D, c0, c1, u, A, B, hS, hAB⟩ := hJ
    exact ⟨hT, hF, hY, hI, h93, n, G, M, H, D, c0, c1, u, A, B, hS, fun j => by have := hAB j; omega⟩
  obtain ⟨r, s2, e1, e2, z2⟩ := h s h512
  obtain ⟨hT, hF, hY, hI, h93, n, G, M, H, D, c0, c1, u, A, B, hS, hAB⟩ := hJ
  have kk := z2.1
  exact ⟨r, s, s2, e1, e2, hT.kp kk (by decide) z2.2.1, hF.kp kk (by decide) z2.2.2.1 z2.2.2.2.1, hY.keep kk (by decide), hI.same kk (by decide) (fun j _ => by rw [(kk 77 (by decide)).1]), by rw [(kk 93 (by decide)).1]; exact h93, n, G, M, H, D, c0, c1, u, A, B, hS.same kk (by decide) (fun j _ => by rw [(kk 77 (by decide)).1]), up_m hAB⟩
theorem jy {ρ : Type} {f g : zS → Option (ρ × zS)} (h : ∀ s, JY s → ∃ r s1 s2, f s = some (r, s1) ∧ g s1 = some (r, s2) ∧ zk_k [69, 70, 71] s s1 ∧ zk_m [97, 98, 99] s1 s2 ∧ JY s2) : zJ_op JJ f g := fun m s hm hJ => by
  obtain ⟨hT, hF, hY, hI, h93, n, G, M, H, D, c0, c1, u, A, B, hS, hAB⟩ := hJ
  obtain ⟨r, s1, s2, e1, e2, z1, z2, hY2⟩ := h s hY
  have kk : zk_k [76, 69, 70, 71, 97, 98, 99] s s2 := (z1.mono (by decide)).tr (z2.1.mono (by decide))
  have e76 : s1.1 76 = s.1 76 := (z1 76 (by decide)).1
  exact ⟨r, s1, s2, e1, e2, hT.kp kk (by decide) (by rw [z2.2.1, e76]), hF.kp kk (by decide) (by rw [z2.2.2.1, e76]) (by rw [z2.2.2.2.1, e76]), hY2, hI.same kk (by decide) (fun j _ => by rw [(kk 77 (by decide)).1]), by rw [(kk 93 (by decide)).1]; exact h93, n, G, M, H, D, c0, c1, u, A, B, hS.same kk (by decide) (fun j _ => by rw [(kk 77 (by decide)).1]), up_m hAB⟩
/-- every run of calls -/
theorem sem : ∀ (xs : Nat → Int32) (L : Nat), L ≤ 3072 → ∃ t : zS, f_L_law xs L zs_0 = some ((), t) :=
  law_all JJ_0 JJ_up
    (h_feed := jfeed)
    (h_society := js)
    (h_fault := fun a => jm fun s h => op_fault a s h.2.1)
    (h_person := fun a b => jq fun _ _ _ _ _ _ _ _ _ _ hN hK _ _ => q_person hN hK a b)
    (h_crosses := fun a b => jq fun _ _ _ _ _ _ _ _ _ _ hN hK _ _ => q_crosses hN hK a b)
    (h_likes := fun a b => jq fun _ _ _ _ _ _ _ _ _ _ hN hK _ _ => q_likes hN hK a b)
    (h_engage := fun a b => jo fun _ _ _ _ _ _ _ _ _ _ _ hN hK hU _ _ => q_engage hN hK hU a b)
    (h_part := fun a => jo fun _ _ _ _ _ _ _ _ _ _ _ hN hK hU _ _ => q_part hN hK hU a)
    (h_stroke := fun a b => jo fun _ _ _ _ _ _ _ _ _ _ _ hN hK hU _ hab => q_stroke hN hK hU hab a b)
    (h_mark := fun a b => jo fun _ _ _ _ _ _ _ _ _ _ _ hN hK hU _ hab => q_mark hN hK hU hab a b)
    (h_undo := fun a => jo fun _ _ _ _ _ _ _ _ _ _ _ hN hK hU _ hab => q_undo hN hK hU hab a)
    (h_judge := fun a b => jo fun _ _ _ _ _ _ _ _ _ _ _ hN hK hU hY hab => q_judge hN hK hU hY hab a b)
    (h_perform := fun a => jo fun _ _ _ _ _ _ _ _ _ _ _ hN hK hU hY hab => q_perform hN hK hU hY hab a)
    (h_year := fun a b => jo fun _ _ _ _ _ _ _ _ _ _ _ hN hK hU _ hab => q_year hN hK hU hab a b)
    (h_holds := jq fun _ _ _ _ _ _ _ _ _ _ hN hK _ _ => q_holds hN hK)
    (h_breaks := jq fun _ _ _ _ _ _ _ _ _ _ hN hK _ _ => q_breaks hN hK)
    (h_breaking := jq fun _ _ _ _ _ _ _ _ _ _ hN hK _ _ => q_breaking hN hK)
    (h_pairings := jq fun _ _ _ _ _ _ _ _ _ _ hN hK _ _ => q_pairings hN hK)
    (h_partner := fun a b => jq fun _ _ _ _ _ _ _ _ _ _ hN hK _ _ => q_partner hN hK a b)
    (h_can := fun a => jq fun _ _ _ _ _ _ _ _ _ _ hN hK _ _ => q_can hN hK a)
    (h_sure := jq fun _ _ _ _ _ _ _ _ _ _ hN hK _ _ => q_sure hN hK)
    (h_most := jq fun _ _ _ _ _ _ _ _ _ _ hN hK _ h93 => q_most hN hK h93)
    (h_triangle := jq fun _ _ _ _ _ _ _ _ _ _ hN hK _ _ => q_triangle hN hK)
    (h_monogram := fun a b => jq fun _ _ _ _ _ _ _ _ _ _ hN hK _ _ => q_monogram hN hK a b)
    (h_fits := fun a => jq fun _ _ _ _ _ _ _ _ _ _ hN hK _ _ => q_fits hN hK a)
    (h_largest := jq fun _ _ _ _ _ _ _ _ _ _ hN hK _ _ => q_largest hN hK)
    (h_misfits := jq fun _ _ _ _ _ _ _ _ _ _ hN hK _ _ => q_misfits hN hK)
    (h_change := fun a b c => jq fun _ _ _ _ _ _ _ _ _ _ hN hK _ _ => q_change hN hK a b c)
    (h_blot := fun a => jq fun _ _ _ _ _ _ _ _ _ _ hN hK hY _ => q_blot hN hK hY a)
    (h_likely := fun a b c => jq fun _ _ _ _ _ _ _ _ _ _ hN hK hY _ => q_likely hN hK hY a b c)
    (h_look := fun a => jq fun _ _ _ _ _ _ _ _ _ _ hN hK hY _ => q_look hN hK hY a)
    (h_marks := fun a b => jo fun _ _ _ _ _ _ _ _ _ _ _ hN hK hU hY hab => q_marks hN hK hU hY hab a b)
    (h_ask := fun a b => jo fun _ _ _ _ _ _ _ _ _ _ _ hN hK hU hY hab => q_ask hN hK hU hY hab a b)
    (h_wins := fun a => jq fun _ _ _ _ _ _ _ _ _ _ hN hK _ _ => q_wins hN hK a)
    (h_best := fun a => jq fun _ _ _ _ _ _ _ _ _ _ hN hK _ _ => q_best hN hK a)
    (h_lasts := fun a => jq fun _ _ _ _ _ _ _ _ _ _ hN hK _ _ => q_lasts hN hK a)
    (h_chance := fun a b => jq fun _ _ _ _ _ _ _ _ _ _ hN hK _ _ => q_chance hN hK a b)
    (h_likeliest := fun a => jq fun _ _ _ _ _ _ _ _ _ _ hN hK _ _ => q_likeliest hN hK a)
    (h_numbers := fun a b c => jy fun s h => op_numbers a b c s h)
    (h_write := fun a b v => jy fun s h => op_write a b v s h)
    (h_lists := jl)
    (h_image := fun a => ji fun _ _ _ _ _ _ _ _ _ _ _ hS hI _ => q_image hS hI a)
    (h_restore := fun a => ji fun _ _ _ _ _ _ _ _ _ _ _ hS hI hab => q_restore hS hI hab a)
    (h_count := fun a => jm fun s h => by
      obtain ⟨hT, hF, hY, hI, h93, n, G, M, H, D, c0, c1, u, A, B, ⟨hN, hU, hK⟩, hAB⟩ := h
      exact op_count a hN hU.x hT)
end ALL
