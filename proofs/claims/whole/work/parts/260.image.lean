theorem zRS.cg {a f sg mk sh od wi co a2 f2 sg2 mk2 sh2 od2 wi2 co2 : Nat → Int32} {n : Nat} {G M H D : Nat → Nat} {c0 c1 : List Nat} (h : zRS a f sg mk sh od wi co n G M H D c0 c1) (ha : ∀ j, j < 1155 → j ≠ 43 → a2 j = a j) (hf : ∀ j, (j = 0 ∨ j = 1 ∨ (8 ≤ j ∧ j ≤ 12)) → f2 j = f j) (h7 : ∀ j, j < 7 → sg2 j = sg j ∧ mk2 j = mk j ∧ sh2 j = sh j ∧ od2 j = od j ∧ wi2 j = wi j) (hc : ∀ j, j < 900 → co2 j = co j) : zRS a2 f2 sg2 mk2 sh2 od2 wi2 co2 n G M H D c0 c1 := by
  obtain ⟨⟨hn, h1, h2, h3⟩, hp, hw, hl0, hl1⟩ := h
  have law : ∀ w cs, w < 2 → zRL a f co w cs → zRL a2 f2 co2 w cs := fun w cs hw2 hl => by
    rcases hl with ⟨l1, l2, l3⟩ | ⟨l1, l2, F, C, l3, l4, l5, l6, l7, l8, l9⟩
    · exact Or.inl ⟨by rw [ha _ (by omega) (by omega)]; exact l1, by rw [hf _ (by omega), hf _ (by omega)]; exact l2, l3⟩
    · exact Or.inr ⟨by rw [ha _ (by omega) (by omega)]; exact l1, l2, F, C, l3, l4, by rw [ha _ (by omega) (by omega)]; exact l5, by rw [ha _ (by omega) (by omega)]; exact l6, by rw [hf _ (by omega)]; exact l7, by rw [hf _ (by omega)]; exact l8, fun i hi => by rw [ha _ (by omega) (by omega), hc _ (by omega)]; exact l9 i hi⟩
  refine ⟨⟨hn, by rw [ha _ (by omega) (by omega)]; exact h1, by rw [hf _ (by omega)]; exact h2, by rw [hf _ (by omega), ha _ (by omega) (by omega)]; exact h3⟩, fun p hp2 => ?_, fun p hp2 => ?_, law 0 c0 (by decide) hl0, law 1 c1 (by decide) hl1⟩
  · obtain ⟨e1, e2, e3, e4, e5⟩ := h7 p (by omega)
    rw [e1, e2, e3, e4, e5, ha _ (by omega) (by omega), ha _ (by omega) (by omega), ha _ (by omega) (by omega), ha _ (by omega) (by omega), ha _ (by omega) (by omega)]
    exact hp p hp2
  · show a2 (22 + p) = -1 ∨ ∃ q, q < n ∧ q ≠ p ∧ a2 (22 + p) = nI q ∧ a2 (22 + q) = nI p
    rw [ha _ (by omega) (by omega)]
    rcases hw p hp2 with e | ⟨q, q1, q2, q3, q4⟩
    · exact Or.inl e
    · exact Or.inr ⟨q, q1, q2, q3, by rw [ha _ (by omega) (by omega)]; exact q4⟩
section IMG
variable {n u : Nat} {G M H D A B : Nat → Nat} {c0 c1 : List Nat} {s a b : zS}
theorem img8 {v : Nat} (hv : v < 2) (s : zS) : ∃ s', f_X8_image_20 zFU (nI v) 0 s = some (0, s') ∧ zk_k [77, 78] s s' ∧ (∀ j, j < 1155 → s'.1 77 (1155 * (v + 1) + j) = s.1 77 j) ∧ (∀ j, (j < 1155 * (v + 1) ∨ 1155 * (v + 1) + 1155 ≤ j) → s'.1 77 j = s.1 77 j) ∧ s'.1 78 = upd (s.1 78) v 1 := by
  obtain ⟨q', t, g1, g2, g3, g4⟩ := zlp (fun q i t => f_X8_image_20 q (nI v) (nI i) t) 1155 (fun i t => zk_k [77] s t ∧ (∀ j, j < i → t.1 77 (1155 * (v + 1) + j) = s.1 77 j) ∧ ∀ j, (j < 1155 * (v + 1) ∨ 1155 * (v + 1) + i ≤ j) → t.1 77 j = s.1 77 j)
    (fun q i t hi h => by
      show ∃ a', f_X8_image_20 (q + 1) (nI v) (nI i) t = f_X8_image_20 q (nI v) (nI (i + 1)) a' ∧ _
      rw [f_X8_image_20, if_neg (nI_ge hi (by omega)), rd_77 t i rfl (by omega), Option.bind_some, h.2.2 i (by omega), nI_1, pk_mul, nI_add, wr_77 t (1155 * (v + 1) + i) rfl (by omega), Option.bind_some, zb_eq, nI_1]
      refine ⟨_, rfl, h.1.i (by simp), fun j hj => ?_, fun j hj => by rw [zs_i_o _ _ _ _ _ (by omega)]; exact h.2.2 j (by omega)⟩
      by_cases e : j = i
      · subst e; rw [zs_i_v]
      · rw [zs_i_o _ _ _ _ _ (by omega)]; exact h.2.1 j (by omega)) 1155 0 zFU s (by decide) (by show 1155 < 5000; decide) ⟨zk_k.rf, fun j hj => by omega, fun _ _ => rfl⟩
  have g1' : f_X8_image_20 zFU (nI v) 0 s = f_X8_image_20 (q' + 1) (nI v) (nI 1155) t := g1
  refine ⟨zs_i t 78 v 1, ?_, (g2.mono (by decide)).i (by simp), fun j hj => by rw [zs_i_n _ _ _ _ _ (by decide)]; exact g3 j hj, fun j hj => by rw [zs_i_n _ _ _ _ _ (by decide)]; exact g4 j hj, ?_⟩
  · rw [g1', f_X8_image_20, if_pos (nI_le (Nat.le_refl _) (by decide)), wr_78 t v rfl hv, Option.bind_some]; rfl
  · have e : t.1 78 = s.1 78 := (g2 78 (by decide)).1
    rw [← e]; rfl
theorem res8 {v : Nat} (hv : v < 2) (s : zS) : ∃ s', f_X8_restore_32 zFU (nI v) 0 s = some (0, s') ∧ zk_k [77] s s' ∧ (∀ j, j < 1155 → j ≠ 43 → s'.1 77 j = s.1 77 (1155 * (v + 1) + j)) ∧ (∀ j, 1155 ≤ j → s'.1 77 j = s.1 77 j) ∧ s'.1 77 43 = 0 := by
  obtain ⟨q', t, g1, g2, g3, g4⟩ := zlp (fun q i t => f_X8_restore_32 q (nI v) (nI i) t) 1155 (fun i t => zk_k [77] s t ∧ (∀ j, j < i → t.1 77 j = s.1 77 (1155 * (v + 1) + j)) ∧ ∀ j, i ≤ j → t.1 77 j = s.1 77 j)
    (fun q i t hi h => by
      show ∃ a', f_X8_restore_32 (q + 1) (nI v) (nI i) t = f_X8_restore_32 q (nI v) (nI (i + 1)) a' ∧ _
      rw [f_X8_restore_32, if_neg (nI_ge hi (by omega)), nI_1, pk_mul, nI_add, rd_77 t (1155 * (v + 1) + i) rfl (by omega), Option.bind_some, h.2.2 _ (by omega), wr_77 t i rfl (by omega), Option.bind_some, zb_eq, nI_1]
      refine ⟨_, rfl, h.1.i (by simp), fun j hj => ?_, fun j hj => by rw [zs_i_o _ _ _ _ _ (by omega)]; exact h.2.2 j (by omega)⟩
      by_cases e : j = i
      · subst e; rw [zs_i_v]
      · rw [zs_i_o _ _ _ _ _ (by omega)]; exact h.2.1 j (by omega)) 1155 0 zFU s (by decide) (by show 1155 < 5000; decide) ⟨zk_k.rf, fun j hj => by omega, fun _ _ => rfl⟩
  have g1' : f_X8_restore_32 zFU (nI v) 0 s = f_X8_restore_32 (q' + 1) (nI v) (nI 1155) t := g1
  refine ⟨zs_i t 77 43 0, ?_, g2.i (by simp), fun j hj h43 => by rw [zs_i_o _ _ _ _ _ h43]; exact g3 j hj, fun j hj => by rw [zs_i_o _ _ _ _ _ (by omega)]; exact g4 j hj, zs_i_v _ _ _ _⟩
  rw [g1', f_X8_restore_32, if_pos (nI_le (Nat.le_refl _) (by decide)), wr_77 t 43 rfl (by decide), Option.bind_some]
/-- what tape, faults, trays rest on is as it was -/
def RST (s t : zS) : Prop := (t.1 0 = s.1 0 ∧ t.1 1 = s.1 1 ∧ t.1 79 = s.1 79 ∧ t.1 76 5 = s.1 76 5) ∧ (t.1 30 = s.1 30 ∧ t.1 76 13 = s.1 76 13 ∧ t.1 76 14 = s.1 76 14) ∧ (t.1 69 = s.1 69 ∧ t.1 70 = s.1 70 ∧ t.2 71 = s.2 71 ∧ t.1 97 = s.1 97 ∧ t.1 98 = s.1 98 ∧ t.2 99 = s.2 99) ∧ t.1 93 0 = s.1 93 0
theorem RST.tr {s t v : zS} (h1 : RST s t) (h2 : RST t v) : RST s v := ⟨⟨h2.1.1.trans h1.1.1, h2.1.2.1.trans h1.1.2.1, h2.1.2.2.1.trans h1.1.2.2.1, h2.1.2.2.2.trans h1.1.2.2.2⟩, ⟨h2.2.1.1.trans h1.2.1.1, h2.2.1.2.1.trans h1.2.1.2.1, h2.2.1.2.2.trans h1.2.1.2.2⟩, ⟨h2.2.2.1.1.trans h1.2.2.1.1, h2.2.2.1.2.1.trans h1.2.2.1.2.1, h2.2.2.1.2.2.1.trans h1.2.2.1.2.2.1, h2.2.2.1.2.2.2.1.trans h1.2.2.1.2.2.2.1, h2.2.2.1.2.2.2.2.1.trans h1.2.2.1.2.2.2.2.1, h2.2.2.1.2.2.2.2.2.trans h1.2.2.1.2.2.2.2.2⟩, h2.2.2.2.trans h1.2.2.2⟩
theorem RST.k {S : List Nat} {s t : zS} (h : zk_k S s t) (hd : ∀ k, k ∈ [0, 1, 79, 76, 30, 69, 70, 71, 97, 98, 99, 93] → k ∉ S) : RST s t := by
  have e : ∀ k, k ∈ [0, 1, 79, 76, 30, 69, 70, 71, 97, 98, 99, 93] → t.1 k = s.1 k ∧ t.2 k = s.2 k := fun k hk => h k (hd k hk)
  refine ⟨⟨(e 0 (by decide)).1, (e 1 (by decide)).1, (e 79 (by decide)).1, by rw [(e 76 (by decide)).1]⟩, ⟨(e 30 (by decide)).1, by rw [(e 76 (by decide)).1], by rw [(e 76 (by decide)).1]⟩, ⟨(e 69 (by decide)).1, (e 70 (by decide)).1, (e 71 (by decide)).2, (e 97 (by decide)).1, (e 98 (by decide)).1, (e 99 (by decide)).2⟩, by rw [(e 93 (by decide)).1]⟩
theorem RST.th {s : zS} {v : Int32} : RST s (zs_i s 76 0 v) := ⟨⟨rfl, rfl, rfl, zs_i_o _ _ _ _ _ (by decide)⟩, ⟨rfl, zs_i_o _ _ _ _ _ (by decide), zs_i_o _ _ _ _ _ (by decide)⟩, ⟨rfl, rfl, rfl, rfl, rfl, rfl⟩, rfl⟩
theorem RST.rf {s : zS} : RST s s := ⟨⟨rfl, rfl, rfl, rfl⟩, ⟨rfl, rfl, rfl⟩, ⟨rfl, rfl, rfl, rfl, rfl, rfl⟩, rfl⟩
/-- the society of now, in both -/
def SOC1 (s : zS) (n : Nat) (G M H D : Nat → Nat) (c0 c1 : List Nat) (u : Nat) (A B : Nat → Nat) : Prop := JNx s n G M H D c0 c1 ∧ JU2 s n u ∧ JK s n G M H c0 c1 A B
def IR (f g : zS → Option (Int32 × zS)) (s : zS) (A B : Nat → Nat) : Prop := ∃ (r : Int32) (s1 s2 : zS) (n : Nat) (G M H D : Nat → Nat) (c0 c1 : List Nat) (u : Nat) (A2 B2 : Nat → Nat), f s = some (r, s1) ∧ g s1 = some (r, s2) ∧ SOC1 s2 n G M H D c0 c1 u A2 B2 ∧ AG A B A2 B2 100 ∧ JIx s2 ∧ RST s s2
theorem SOC1.same (h : SOC1 s n G M H D c0 c1 u A B) {S : List Nat} (hk : zk_k S s b) (hd : ∀ k, k ∈ [3, 4, 5, 6, 7, 8, 9, 10, 11, 73, 74, 43, 44, 45, 47, 48, 49, 50, 51, 53, 54, 57, 60, 61, 62, 65, 66] → k ∉ S) (h77 : ∀ j, j < 1155 → b.1 77 j = s.1 77 j) : SOC1 b n G M H D c0 c1 u A B := by
  obtain ⟨h1, h2, h3⟩ := h
  have e : ∀ k, k ∈ [3, 4, 5, 6, 7, 8, 9, 10, 11, 73, 74, 43, 44, 45, 47, 48, 49, 50, 51, 53, 54, 57, 60, 61, 62, 65, 66] → b.1 k = s.1 k := fun k hk2 => (hk k (hd k hk2)).1
  refine ⟨zRS.cg h1 (fun j hj _ => h77 j hj) (fun j _ => by rw [e 3 (by decide)]) (fun j _ => ⟨by rw [e 4 (by decide)], by rw [e 5 (by decide)], by rw [e 6 (by decide)], by rw [e 7 (by decide)], by rw [e 8 (by decide)]⟩) (fun j _ => by rw [e 9 (by decide)]), h2.same h1.1.1 (by rw [e 73 (by decide)]) (e 74 (by decide)) (fun j _ hj => h77 j (by omega)), h3.keep hk (fun k hk2 => hd k (by revert k; decide))⟩
theorem JIx.same (h : JIx s) {S : List Nat} (hk : zk_k S s b) (hd : ∀ k, k ∈ [2, 78, 12, 13, 14, 15, 16, 17, 18, 21, 22, 23, 24, 25, 26, 27] → k ∉ S) (h77 : ∀ j, 1155 ≤ j → b.1 77 j = s.1 77 j) : JIx b := by
  obtain ⟨h1, h2, h3⟩ := h
  have e : ∀ k, k ∈ [2, 78, 12, 13, 14, 15, 16, 17, 18, 21, 22, 23, 24, 25, 26, 27] → b.1 k = s.1 k := fun k hk2 => (hk k (hd k hk2)).1
  refine ⟨fun i hi => by rw [e 2 (by decide), e 78 (by decide)]; exact h1 i hi, fun hb => ?_, fun hb => ?_⟩
  · obtain ⟨n, G, M, H, D, c0, c1, h⟩ := h2 (by rw [← e 2 (by decide)]; exact hb)
    exact ⟨n, G, M, H, D, c0, c1, zRS.cg h (fun j hj _ => h77 _ (by omega)) (fun j _ => by rw [e 12 (by decide)]) (fun j _ => ⟨by rw [e 13 (by decide)], by rw [e 14 (by decide)], by rw [e 15 (by decide)], by rw [e 16 (by decide)], by rw [e 17 (by decide)]⟩) (fun j _ => by rw [e 18 (by decide)])⟩
  · obtain ⟨n, G, M, H, D, c0, c1, h⟩ := h3 (by rw [← e 2 (by decide)]; exact hb)
    exact ⟨n, G, M, H, D, c0, c1, zRS.cg h (fun j hj _ => h77 _ (by omega)) (fun j _ => by rw [e 21 (by decide)]) (fun j _ => ⟨by rw [e 22 (by decide)], by rw [e 23 (by decide)], by rw [e 24 (by decide)], by rw [e 25 (by decide)], by rw [e 26 (by decide)]⟩) (fun j _ => by rw [e 27 (by decide)])⟩
theorem q_image (hS : SOC1 s n G M H D c0 c1 u A B) (hI : JIx s) (x : Int32) : IR (f_X7_image x) (f_X8_image x) s A B := by
  rcases wi_c (x := x) (m := 1) (y := (1 : Int64)) (by decide) rfl with ⟨w1, w2⟩ | ⟨v, hv, rfl, w1⟩
  · refine ⟨-2, s, zs_i s 76 0 0, n, G, M, H, D, c0, c1, u, A, B, ?_, ?_, hS.same (zk_k.rf.i (S := [76]) (by simp)) (by decide) (fun _ _ => rfl), AG.rf, hI.same (zk_k.rf.i (S := [76]) (by simp)) (by decide) (fun _ _ => rfl), RST.th⟩
    · rw [f_X7_image]
      rcases w2 with h | ⟨h, h'⟩
      · rw [if_pos h]; rfl
      · rw [if_neg h, if_neg (i_nlt h')]; rfl
    · rw [f_X8_image, zb_eq, w1, zbd_some, if_neg (fun z => z rfl)]
  · have e7 : ¬ nI v < (0 : Int32) := nI_pos (by omega)
    have e7' : nI v < nI 2 := nI_lt (by omega) (by decide)
    rcases (by omega : v = 0 ∨ v = 1) with rfl | rfl
    · obtain ⟨s1, a1, a2, a3⟩ := cp_12_3 s
      obtain ⟨b, b1, b2, b3, b4, b5⟩ := img8 (v := 0) (by decide) (zs_i (zs_i s1 2 0 1) 76 0 0)
      have kc : zk_k [2, 12, 13, 14, 15, 16, 17, 18, 19] s (zs_i s1 2 0 1) := (a2.mono (by decide)).i (by simp)
      have k1 : zk_k [2, 12, 13, 14, 15, 16, 17, 18, 19, 76, 77, 78] s b := ((kc.mono (by decide)).i (by simp)).tr (b2.mono (by decide))
      have e77 : (zs_i (zs_i s1 2 0 1) 76 0 0).1 77 = s.1 77 := by rw [zs_i_n _ _ _ _ _ (by decide), (kc 77 (by decide)).1]
      have c77 : ∀ j, (j < 1155 ∨ 2310 ≤ j) → b.1 77 j = s.1 77 j := fun j hj => by rw [b4 j (by omega), e77]
      have eq : ∀ k, k ∉ [77, 78, 76, 2] → b.1 k = s1.1 k := fun k hk => by
        simp only [List.mem_cons, List.not_mem_nil, or_false, not_or] at hk
        rw [(b2 k (by simp only [List.mem_cons, List.not_mem_nil, or_false, not_or]; exact ⟨hk.1, hk.2.1⟩)).1, zs_i_n _ _ _ _ _ hk.2.2.1, zs_i_n _ _ _ _ _ hk.2.2.2]
      refine ⟨0, zs_i s1 2 0 1, b, n, G, M, H, D, c0, c1, u, A, B, ?_, ?_, hS.same k1 (by decide) (fun j hj => c77 j (Or.inl hj)), AG.rf, ⟨fun i hi => ?_, fun _ => ⟨n, G, M, H, D, c0, c1, ?_⟩, fun hb => ?_⟩, ?_⟩
      · rw [f_X7_image, if_neg e7, if_pos e7', if_neg (fun z => z rfl), a1, zbd_some, wr_2 s1 0 rfl (by decide), Option.bind_some]; rfl
      · rw [f_X8_image, zb_eq, w1, zbd_some, if_pos (by decide), b1]
      · have e2 : b.1 2 = upd (s.1 2) 0 1 := by
          rw [(b2 2 (by decide)).1, zs_i_n _ _ _ _ _ (by decide)]
          have : (zs_i s1 2 0 1).1 2 = upd (s1.1 2) 0 1 := by simp [zs_i]
          rw [this, (a2 2 (by decide)).1]
        have e78 : b.1 78 = upd (s.1 78) 0 1 := by rw [b5, zs_i_n _ _ _ _ _ (by decide), (kc 78 (by decide)).1]
        rw [e2, e78]
        unfold upd
        by_cases e : i = 0
        · subst e; simp
        · simp only [e, if_false]; exact hI.1 i hi
      · refine zRS.cg hS.1 (fun j hj _ => ?_) (fun j hj => ?_) (fun j hj => ?_) (fun j hj => ?_)
        · have := b3 j hj; rw [e77] at this; exact this
        · rw [eq 12 (by decide)]; exact a3.1 j hj
        · rw [eq 13 (by decide), eq 14 (by decide), eq 15 (by decide), eq 16 (by decide), eq 17 (by decide)]; exact a3.2.1 j hj
        · rw [eq 18 (by decide)]; exact a3.2.2.1 j hj
      · have e21 : b.1 2 1 = s.1 2 1 := by
          rw [(b2 2 (by decide)).1, zs_i_n _ _ _ _ _ (by decide), zs_i_o _ _ _ _ _ (by decide), (a2 2 (by decide)).1]
        obtain ⟨n', G', M', H', D', d0, d1, h⟩ := hI.2.2 (by rw [← e21]; exact hb)
        have es : ∀ k, k ∈ [21, 22, 23, 24, 25, 26, 27] → b.1 k = s.1 k := fun k hk => (k1 k (by revert k; decide)).1
        exact ⟨n', G', M', H', D', d0, d1, zRS.cg h (fun j hj _ => c77 _ (by omega)) (fun j _ => by rw [es 21 (by decide)]) (fun j _ => ⟨by rw [es 22 (by decide)], by rw [es 23 (by decide)], by rw [es 24 (by decide)], by rw [es 25 (by decide)], by rw [es 26 (by decide)]⟩) (fun j _ => by rw [es 27 (by decide)])⟩
      · exact ((RST.k kc (by decide)).tr RST.th).tr (RST.k b2 (by decide))
    · obtain ⟨s1, a1, a2, a3⟩ := cp_21_3 s
      obtain ⟨b, b1, b2, b3, b4, b5⟩ := img8 (v := 1) (by decide) (zs_i (zs_i s1 2 1 1) 76 0 0)
      have kc : zk_k [2, 21, 22, 23, 24, 25, 26, 27, 28] s (zs_i s1 2 1 1) := (a2.mono (by decide)).i (by simp)
      have k1 : zk_k [2, 21, 22, 23, 24, 25, 26, 27, 28, 76, 77, 78] s b := ((kc.mono (by decide)).i (by simp)).tr (b2.mono (by decide))
      have e77 : (zs_i (zs_i s1 2 1 1) 76 0 0).1 77 = s.1 77 := by rw [zs_i_n _ _ _ _ _ (by decide), (kc 77 (by decide)).1]
      have c77 : ∀ j, j < 2310 → b.1 77 j = s.1 77 j := fun j hj => by rw [b4 j (by omega), e77]
      have eq : ∀ k, k ∉ [77, 78, 76, 2] → b.1 k = s1.1 k := fun k hk => by
        simp only [List.mem_cons, List.not_mem_nil, or_false, not_or] at hk
        rw [(b2 k (by simp only [List.mem_cons, List.not_mem_nil, or_false, not_or]; exact ⟨hk.1, hk.2.1⟩)).1, zs_i_n _ _ _ _ _ hk.2.2.1, zs_i_n _ _ _ _ _ hk.2.2.2]
      refine ⟨0, zs_i s1 2 1 1, b, n, G, M, H, D, c0, c1, u, A, B, ?_, ?_, hS.same k1 (by decide) (fun j hj => c77 j (by omega)), AG.rf, ⟨fun i hi => ?_, fun hb => ?_, fun _ => ⟨n, G, M, H, D, c0, c1, ?_⟩⟩, ?_⟩
      · rw [f_X7_image, if_neg e7, if_pos e7', if_pos (show ¬ nI 1 = (0 : Int32) by decide), a1, zbd_some, wr_2 s1 1 rfl (by decide), Option.bind_some]; rfl
      · rw [f_X8_image, zb_eq, w1, zbd_some, if_pos (by decide), b1]
      · have e2 : b.1 2 = upd (s.1 2) 1 1 := by
          rw [(b2 2 (by decide)).1, zs_i_n _ _ _ _ _ (by decide)]
          have : (zs_i s1 2 1 1).1 2 = upd (s1.1 2) 1 1 := by simp [zs_i]
          rw [this, (a2 2 (by decide)).1]
        have e78 : b.1 78 = upd (s.1 78) 1 1 := by rw [b5, zs_i_n _ _ _ _ _ (by decide), (kc 78 (by decide)).1]
        rw [e2, e78]
        unfold upd
        by_cases e : i = 1
        · subst e; simp
        · simp only [e, if_false]; exact hI.1 i hi
      · have e21 : b.1 2 0 = s.1 2 0 := by
          rw [(b2 2 (by decide)).1, zs_i_n _ _ _ _ _ (by decide), zs_i_o _ _ _ _ _ (by decide), (a2 2 (by decide)).1]
        obtain ⟨n', G', M', H', D', d0, d1, h⟩ := hI.2.1 (by rw [← e21]; exact hb)
        have es : ∀ k, k ∈ [12, 13, 14, 15, 16, 17, 18] → b.1 k = s.1 k := fun k hk => (k1 k (by revert k; decide)).1
        exact ⟨n', G', M', H', D', d0, d1, zRS.cg h (fun j hj _ => c77 _ (by omega)) (fun j _ => by rw [es 12 (by decide)]) (fun j _ => ⟨by rw [es 13 (by decide)], by rw [es 14 (by decide)], by rw [es 15 (by decide)], by rw [es 16 (by decide)], by rw [es 17 (by decide)]⟩) (fun j _ => by rw [es 18 (by decide)])⟩
      · refine zRS.cg hS.1 (fun j hj _ => ?_) (fun j hj => ?_) (fun j hj => ?_) (fun j hj => ?_)
        · have := b3 j hj; rw [e77] at this; exact this
        · rw [eq 21 (by decide)]; exact a3.1 j hj
        · rw [eq 22 (by decide), eq 23 (by decide), eq 24 (by decide), eq 25 (by decide), eq 26 (by decide)]; exact a3.2.1 j hj
        · rw [eq 27 (by decide)]; exact a3.2.2.1 j hj
      · exact ((RST.k kc (by decide)).tr RST.th).tr (RST.k b2 (by decide))
/-- another society is now -/
theorem newsoc {n2 : Nat} {G2 M2 H2 D2 : Nat → Nat} {d0 d1 : List Nat} {S : Nat} {T : List Nat} (hS : SOC1 s n G M H D c0 c1 u A B) (hk : zk_k T s b) (hd : ∀ k, k ∈ [11, 43, 44, 45, 47, 48, 49, 50, 51, 53, 54, 57, 60, 61, 62, 65, 66] → k ∉ T) (hN : JNx b n2 G2 M2 H2 D2 d0 d1) (h10 : ∀ j, j < 7 → b.1 10 j = s.1 10 j + 1) (h73 : b.1 73 3 = 0) (h43 : b.1 77 43 = 0) (hab : AB A B 1) : SOC1 b n2 G2 M2 H2 D2 d0 d1 0 (fun j => A j + 1) B := by
  obtain ⟨h1, h2, h3⟩ := hS
  have hA := h3.1.1.2.1
  refine ⟨hN, ⟨by omega, h43, h73, fun r hr => by omega⟩, h3.all (fun k hk2 => (hk k (hd k (by revert k; decide))).1) hN.k (fun p hp => ?_) (fun j _ => ⟨by omega, Nat.le_refl _⟩)⟩
  obtain ⟨z1, z2, z3, z4, z5⟩ := hA p hp
  have := hab p hp
  exact ⟨by rw [h10 p hp, z1, nI_1], by rw [(hk 11 (hd 11 (by decide))).1, z2], by omega, by omega, z5⟩
theorem q_restore (hS : SOC1 s n G M H D c0 c1 u A B) (hI : JIx s) (hab : AB A B 1) (x : Int32) : IR (f_X7_restore x) (f_X8_restore x) s A B := by
  have no : ∀ r, f_X7_restore x s = some (r, s) → f_X8_restore x s = some (r, zs_i s 76 0 0) → IR (f_X7_restore x) (f_X8_restore x) s A B := fun r h1 h2 => ⟨r, s, zs_i s 76 0 0, n, G, M, H, D, c0, c1, u, A, B, h1, h2, hS.same (zk_k.rf.i (S := [76]) (by simp)) (by decide) (fun _ _ => rfl), AG.rf, hI.same (zk_k.rf.i (S := [76]) (by simp)) (by decide) (fun _ _ => rfl), RST.th⟩
  rcases wi_c (x := x) (m := 1) (y := (1 : Int64)) (by decide) rfl with ⟨w1, w2⟩ | ⟨v, hv, rfl, w1⟩
  · refine no (-2) ?_ ?_
    · rw [f_X7_restore]
      rcases w2 with h | ⟨h, h'⟩
      · rw [if_pos h]; rfl
      · rw [if_neg h, if_neg (i_nlt h')]; rfl
    · rw [f_X8_restore, zb_eq, w1, zbd_some, if_neg (fun z => z rfl)]
  · have e7 : ¬ nI v < (0 : Int32) := nI_pos (by omega)
    have e7' : nI v < nI 2 := nI_lt (by omega) (by decide)
    obtain ⟨i1, i2⟩ := hI.1 v (by omega)
    rcases i2 with i2 | i2
    · refine no (-5) ?_ ?_
      · rw [f_X7_restore, if_neg e7, if_pos e7', rd_2 s v rfl (by omega), Option.bind_some, i2, if_neg (fun z => z rfl)]
      · have e : (zs_i s 76 0 0).1 78 v = 0 := by rw [zs_i_n _ _ _ _ _ (by decide), ← i1, i2]
        rw [f_X8_restore, zb_eq, w1, zbd_some, if_pos (by decide), rd_78 _ v rfl (by omega), Option.bind_some, e, if_neg (fun z => z rfl)]
    · have go : ∀ s1, zk_k [3, 4, 5, 6, 7, 8, 9, 10] s s1 → f_X7_restore (nI v) s = zbd (f_X2_forget s1) (fun _ s3 => some ((0 : Int32), s3)) → (∀ j, j < 7 → s1.1 10 j = s.1 10 j + 1) → (∃ n2 G2 M2 H2 D2 d0 d1, zRS (fun j => s.1 77 (1155 * (v + 1) + j)) (s1.1 3) (s1.1 4) (s1.1 5) (s1.1 6) (s1.1 7) (s1.1 8) (s1.1 9) n2 G2 M2 H2 D2 d0 d1) → IR (f_X7_restore (nI v)) (f_X8_restore (nI v)) s A B := fun s1 k1 f1 h10 hz => by
        obtain ⟨n2, G2, M2, H2, D2, d0, d1, hz⟩ := hz
        obtain ⟨b, b1, b2, b3, b4, b5⟩ := res8 (v := v) (by omega) (zs_i (zs_i s1 73 3 0) 76 0 0)
        have kc : zk_k [3, 4, 5, 6, 7, 8, 9, 10, 73] s (zs_i s1 73 3 0) := (k1.mono (by decide)).i (by simp)
        have kk : zk_k [3, 4, 5, 6, 7, 8, 9, 10, 73, 76, 77] s b := ((kc.mono (by decide)).i (by simp)).tr (b2.mono (by decide))
        have e77 : (zs_i (zs_i s1 73 3 0) 76 0 0).1 77 = s.1 77 := by rw [zs_i_n _ _ _ _ _ (by decide), (kc 77 (by decide)).1]
        have eq : ∀ k, k ∈ [3, 4, 5, 6, 7, 8, 9, 10] → b.1 k = s1.1 k := fun k hk => by
          have hk2 : k ≠ 77 ∧ k ≠ 76 ∧ k ≠ 73 := by revert k; decide
          rw [(b2 k (by simp [hk2.1])).1, zs_i_n _ _ _ _ _ hk2.2.1, zs_i_n _ _ _ _ _ hk2.2.2]
        have hN : JNx b n2 G2 M2 H2 D2 d0 d1 := zRS.cg hz (fun j hj h43 => by rw [b3 j hj h43, e77]) (fun j _ => by rw [eq 3 (by decide)]) (fun j _ => by rw [eq 4 (by decide), eq 5 (by decide), eq 6 (by decide), eq 7 (by decide), eq 8 (by decide)]; exact ⟨rfl, rfl, rfl, rfl, rfl⟩) (fun j _ => by rw [eq 9 (by decide)])
        have hs2 := newsoc (S := 0) hS kk (by decide) hN (fun j hj => by rw [eq 10 (by decide)]; exact h10 j hj) (by rw [(b2 73 (by decide)).1, zs_i_n _ _ _ _ _ (by decide), zs_i_v]) b5 hab
        refine ⟨0, zs_i s1 73 3 0, b, n2, G2, M2, H2, D2, d0, d1, 0, _, B, ?_, ?_, hs2, fun j => ⟨by simp only []; omega, by simp only []; omega, Nat.le_refl _, by omega⟩, hI.same kk (by decide) (fun j hj => by rw [b4 j hj, e77]), ((RST.k kc (by decide)).tr RST.th).tr (RST.k b2 (by decide))⟩
        · rw [f1, f_X2_forget, zb_eq, zbd_some]
        · have e : (zs_i (zs_i s1 73 3 0) 76 0 0).1 78 v = 1 := by rw [zs_i_n _ _ _ _ _ (by decide), (kc 78 (by decide)).1, ← i1, i2]
          rw [f_X8_restore, zb_eq, w1, zbd_some, if_pos (by decide), rd_78 _ v rfl (by omega), Option.bind_some, e, if_pos (by decide), b1]
      rcases (by omega : v = 0 ∨ v = 1) with rfl | rfl
      · obtain ⟨s1, a1, a2, a3⟩ := cp_3_12 s
        obtain ⟨n', G', M', H', D', d0, d1, h⟩ := hI.2.1 i2
        refine go s1 a2 ?_ a3.2.2.2 ⟨n', G', M', H', D', d0, d1, zRS.cg h (fun j _ _ => rfl) (fun j hj => a3.1 j hj) (fun j hj => a3.2.1 j hj) (fun j hj => a3.2.2.1 j hj)⟩
        rw [f_X7_restore, if_neg e7, if_pos e7', rd_2 s 0 rfl (by decide), Option.bind_some, i2, if_pos (by decide), if_neg (fun z => z rfl), a1, zbd_some]
      · obtain ⟨s1, a1, a2, a3⟩ := cp_3_21 s
        obtain ⟨n', G', M', H', D', d0, d1, h⟩ := hI.2.2 i2
        refine go s1 a2 ?_ a3.2.2.2 ⟨n', G', M', H', D', d0, d1, zRS.cg h (fun j _ _ => rfl) (fun j hj => a3.1 j hj) (fun j hj => a3.2.1 j hj) (fun j hj => a3.2.2.1 j hj)⟩
        rw [f_X7_restore, if_neg e7, if_pos e7', rd_2 s 1 rfl (by decide), Option.bind_some, i2, if_pos (by decide), if_pos (show ¬ nI 1 = (0 : Int32) by decide), a1, zbd_some]
end IMG
