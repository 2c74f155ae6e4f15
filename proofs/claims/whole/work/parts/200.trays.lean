/-- a frame of the reference's calls: all but S, and of its own fields taped, faultKind, faultPlace -/
def zk_m (S : List Nat) (s t : zS) : Prop := zk_k (76 :: S) s t ∧ t.1 76 5 = s.1 76 5 ∧ t.1 76 13 = s.1 76 13 ∧ t.1 76 14 = s.1 76 14 ∧ t.1 76 29 = s.1 76 29
theorem zk_m.rf {S : List Nat} {s : zS} : zk_m S s s := ⟨zk_k.rf, rfl, rfl, rfl, rfl⟩
theorem zk_m.tr {S : List Nat} {s t u : zS} (h1 : zk_m S s t) (h2 : zk_m S t u) : zk_m S s u := ⟨h1.1.tr h2.1, h2.2.1.trans h1.2.1, h2.2.2.1.trans h1.2.2.1, h2.2.2.2.1.trans h1.2.2.2.1, h2.2.2.2.2.trans h1.2.2.2.2⟩
theorem zk_m.mono {S S2 : List Nat} {s t : zS} (h : zk_m S s t) (hs : ∀ k ∈ S, k ∈ S2) : zk_m S2 s t := ⟨h.1.mono (fun k hk => by
    rcases List.mem_cons.mp hk with e | e
    · exact List.mem_cons.mpr (Or.inl e)
    · exact List.mem_cons.mpr (Or.inr (hs k e))), h.2⟩
theorem zk_m.th {S : List Nat} {s : zS} {v : Int32} : zk_m S s (zs_i s 76 0 v) := ⟨zk_k.rf.i List.mem_cons_self, zs_i_o _ _ _ _ _ (by decide), zs_i_o _ _ _ _ _ (by decide), zs_i_o _ _ _ _ _ (by decide), zs_i_o _ _ _ _ _ (by decide)⟩
theorem zk_m.f {S : List Nat} {s t : zS} {j : Nat} {v : Int32} (h : zk_m S s t) (h5 : j ≠ 5) (h13 : j ≠ 13) (h14 : j ≠ 14) (h29 : j ≠ 29 := by decide) : zk_m S s (zs_i t 76 j v) := ⟨h.1.i List.mem_cons_self, (zs_i_o _ _ _ _ _ (Ne.symm h5)).trans h.2.1, (zs_i_o _ _ _ _ _ (Ne.symm h13)).trans h.2.2.1, (zs_i_o _ _ _ _ _ (Ne.symm h14)).trans h.2.2.2.1, (zs_i_o _ _ _ _ _ (Ne.symm h29)).trans h.2.2.2.2⟩
theorem zk_m.i {S : List Nat} {s t : zS} {k j : Nat} {v : Int32} (h : zk_m S s t) (hk : k ∈ S) (h76 : 76 ≠ k) : zk_m S s (zs_i t k j v) := ⟨h.1.i (List.mem_cons_of_mem _ hk), by rw [zs_i_n _ _ _ _ _ h76]; exact h.2.1, by rw [zs_i_n _ _ _ _ _ h76]; exact h.2.2.1, by rw [zs_i_n _ _ _ _ _ h76]; exact h.2.2.2.1, by rw [zs_i_n _ _ _ _ _ h76]; exact h.2.2.2.2⟩
theorem zk_m.l {S : List Nat} {s t : zS} {k j : Nat} {v : Int64} (h : zk_m S s t) (hk : k ∈ S) : zk_m S s (zs_l t k j v) := ⟨h.1.l (List.mem_cons_of_mem _ hk), h.2⟩
/-- the trays of both -/
def JY (s : zS) : Prop := ∀ t, t < 4 → s.1 69 t = s.1 97 t ∧ (s.1 69 t = -1 ∨ (∃ so, so < 4 ∧ s.1 69 t = nI so) ∧ ∃ z, z ≤ 40 ∧ s.1 70 t = nI z ∧ s.1 98 t = nI z ∧ ∀ i, i < z → s.2 71 (40 * t + i) = s.2 99 (40 * t + i))
theorem wi_in {j m : Nat} {y : Int64} (s : zS) (h : j ≤ m) (hm : m < 2 ^ 31) (hy : y.toInt = m) : f_X8_within (nI j).toInt64 0 y s = some (1, s) := by
  rw [wi_ok, if_pos ⟨(l_ge (n := 0) rfl).mpr (by rw [nI_toInt (by omega)]; omega), (l_le hy).mpr (by rw [nI_toInt (by omega)]; omega)⟩]
theorem wi_neg {x : Int32} {y : Int64} (s : zS) (h : x < 0) : f_X8_within x.toInt64 0 y s = some (0, s) := by
  rw [wi_ok, if_neg (fun z => by
    have h1 := (l_ge (n := 0) rfl).mp z.1
    have h2 : x.toInt < 0 := Int32.lt_iff_toInt_lt.mp h
    omega)]
theorem wi_big {x : Int32} {m : Nat} {y : Int64} (s : zS) (hm : m + 1 < 2 ^ 31) (hy : y.toInt = m) (h : nI (m + 1) ≤ x) : f_X8_within x.toInt64 0 y s = some (0, s) := by
  rw [wi_ok, if_neg (fun z => by
    have h1 := (l_le hy).mp z.2
    have h2 := Int32.le_iff_toInt_le.mp h
    rw [nI_toInt hm] at h2
    omega)]
theorem one_in {t : Nat} (s : zS) (h : t < 4) : f_X6_isOne (nI t) s = some (1, s) := by
  unfold f_X6_isOne f_X6_isOne_14
  rw [if_neg (nI_pos (by omega)), if_neg (nI_ge (a := t) (b := 4) h (by omega))]
  simp
theorem one_neg {x : Int32} (s : zS) (h : x < 0) : f_X6_isOne x s = some (0, s) := by
  unfold f_X6_isOne f_X6_isOne_13 f_X6_isOne_14
  rw [if_pos h]
  simp
theorem one_big {x : Int32} (s : zS) (h : nI 4 ≤ x) : f_X6_isOne x s = some (0, s) := by
  unfold f_X6_isOne f_X6_isOne_13 f_X6_isOne_14
  rw [if_pos h]
  by_cases h2 : x < 0
  · rw [if_pos h2]; simp
  · rw [if_neg h2]; simp
theorem miss_m {t : Nat} (s : zS) (h : t < 4) (hm : s.1 69 t = -1) : f_X6_isMissing (nI t) s = some (1, s) := by
  unfold f_X6_isMissing f_X6_isMissing_17 f_X6_isMissing_22
  rw [one_in s h, zbd_some, if_neg (by decide), rd_69 s t rfl h, Option.bind_some, hm, if_neg (by decide)]
  simp
theorem miss_h {t so : Nat} (s : zS) (h : t < 4) (hs : so < 4) (hm : s.1 69 t = nI so) : f_X6_isMissing (nI t) s = some (0, s) := by
  unfold f_X6_isMissing f_X6_isMissing_22
  rw [one_in s h, zbd_some, if_neg (by decide), rd_69 s t rfl h, Option.bind_some, hm, if_pos (nI_pos' (by omega))]
  simp
theorem size_h {t so z : Nat} (s : zS) (h : t < 4) (hs : so < 4) (hm : s.1 69 t = nI so) (hz : s.1 70 t = nI z) : f_X6_sizeOf (nI t) s = some (nI z, s) := by
  unfold f_X6_sizeOf f_X6_sizeOf_18
  rw [miss_h s h hs hm, zbd_some, if_pos rfl, rd_70 s t rfl h, Option.bind_some, hz]
theorem size_m {t : Nat} (s : zS) (h : t < 4) (hm : s.1 69 t = -1) : f_X6_sizeOf (nI t) s = some (0, s) := by
  unfold f_X6_sizeOf f_X6_sizeOf_18
  rw [miss_m s h hm, zbd_some, if_neg (by decide)]
theorem notray_in {t so : Nat} (s : zS) (h : t < 4) (hs : so < 4) (hm : s.1 97 t = nI so) : f_X8_noTray (nI t) s = some (0, s) := by
  unfold f_X8_noTray f_X8_noTray_33
  rw [wi_in s (m := 3) (by omega) (by omega) rfl, zbd_some, if_pos (by decide), rd_97 s t rfl h, Option.bind_some, hm, if_pos (fun z => ?_)]
  have := nI_pos' (n := so) (by omega)
  rw [z] at this
  exact absurd this (by decide)
theorem notray_m {t : Nat} (s : zS) (h : t < 4) (hm : s.1 97 t = -1) : f_X8_noTray (nI t) s = some (-6, s) := by
  unfold f_X8_noTray f_X8_noTray_33
  rw [wi_in s (m := 3) (by omega) (by omega) rfl, zbd_some, if_pos (by decide), rd_97 s t rfl h, Option.bind_some, hm, if_neg (by decide)]
theorem notray_neg {x : Int32} (s : zS) (h : x < 0) : f_X8_noTray x s = some (-2, s) := by
  unfold f_X8_noTray f_X8_noTray_33
  rw [wi_neg s h, zbd_some, if_neg (by decide)]
theorem notray_big {x : Int32} (s : zS) (h : nI 4 ≤ x) : f_X8_noTray x s = some (-2, s) := by
  unfold f_X8_noTray f_X8_noTray_33
  rw [wi_big s (m := 3) (by omega) rfl h, zbd_some, if_neg (by decide)]
theorem renew_loop {t : Nat} (ht : t < 4) : ∀ (k i n : Nat) (s : zS), i + k = 40 → k < n → ∃ s', f_X6_renew_26 n (nI t) (nI i) s = some ((), s') ∧ s'.1 = s.1 ∧ (∀ q, q ≠ 71 → s'.2 q = s.2 q) ∧ ∀ m, s'.2 71 m = if 40 * t + i ≤ m ∧ m < 40 * t + 40 then 0 else s.2 71 m := by
  intro k
  induction k with
  | zero =>
    intro i n s hi hn
    obtain ⟨n, rfl⟩ : ∃ m, n = m + 1 := ⟨n - 1, by omega⟩
    rw [f_X6_renew_26, if_pos (nI_le (a := 40) (by omega) (by omega))]
    exact ⟨s, rfl, rfl, fun _ _ => rfl, fun m => by rw [if_neg (by omega)]⟩
  | succ k ih =>
    intro i n s hi hn
    obtain ⟨n, rfl⟩ : ∃ m, n = m + 1 := ⟨n - 1, by omega⟩
    rw [f_X6_renew_26, if_neg (nI_ge (b := 40) (by omega) (by omega))]
    rw [wr_71 s (v := 0) (40 * t + i) (by rw [pk_mul, nI_add, Nat.mul_comm]) (by omega), Option.bind_some, zb_eq, show nI i + (1 : Int32) = nI (i + 1) from nI_1 i]
    obtain ⟨s', h1, h2, h3, h4⟩ := ih (i + 1) n (zs_l s 71 (40 * t + i) 0) (by omega) (by omega)
    refine ⟨s', h1, h2, fun q hq => (h3 q hq).trans (zs_l_n _ _ _ _ _ hq), fun m => ?_⟩
    rw [h4 m]
    by_cases hm : m = 40 * t + i
    · subst hm
      rw [if_neg (by omega), if_pos (by omega), zs_l_v]
    · rw [zs_l_o _ _ _ _ _ hm]
      by_cases h5 : 40 * t + (i + 1) ≤ m ∧ m < 40 * t + 40
      · rw [if_pos h5, if_pos (by omega)]
      · rw [if_neg h5, if_neg (by omega)]
theorem numbers_loop {t c : Nat} (ht : t < 4) (hc : c ≤ 40) : ∀ (k i n : Nat) (s : zS), i + k = c → k < n → ∃ s', f_X8_numbers_64 n (nI t) (nI c) (nI i) s = some (0, s') ∧ s'.1 = s.1 ∧ (∀ q, q ≠ 99 → s'.2 q = s.2 q) ∧ ∀ m, s'.2 99 m = if 40 * t + i ≤ m ∧ m < 40 * t + c then 0 else s.2 99 m := by
  intro k
  induction k with
  | zero =>
    intro i n s hi hn
    obtain ⟨n, rfl⟩ : ∃ m, n = m + 1 := ⟨n - 1, by omega⟩
    rw [f_X8_numbers_64, if_pos (nI_le (by omega) (by omega))]
    exact ⟨s, rfl, rfl, fun _ _ => rfl, fun m => by rw [if_neg (by omega)]⟩
  | succ k ih =>
    intro i n s hi hn
    obtain ⟨n, rfl⟩ : ∃ m, n = m + 1 := ⟨n - 1, by omega⟩
    rw [f_X8_numbers_64, if_neg (nI_ge (by omega) (by omega))]
    rw [wr_99 s (v := 0) (40 * t + i) (by rw [pk_mul, nI_add]) (by omega), Option.bind_some, zb_eq, show nI i + (1 : Int32) = nI (i + 1) from nI_1 i]
    obtain ⟨s', h1, h2, h3, h4⟩ := ih (i + 1) n (zs_l s 99 (40 * t + i) 0) (by omega) (by omega)
    refine ⟨s', h1, h2, fun q hq => (h3 q hq).trans (zs_l_n _ _ _ _ _ hq), fun m => ?_⟩
    rw [h4 m]
    by_cases hm : m = 40 * t + i
    · subst hm
      rw [if_neg (by omega), if_pos (by omega), zs_l_v]
    · rw [zs_l_o _ _ _ _ _ hm]
      by_cases h5 : 40 * t + (i + 1) ≤ m ∧ m < 40 * t + c
      · rw [if_pos h5, if_pos (by omega)]
      · rw [if_neg h5, if_neg (by omega)]
theorem JY.keep {s t : zS} {S : List Nat} (h : JY s) (hk : zk_k S s t) (hd : 69 ∉ S ∧ 70 ∉ S ∧ 71 ∉ S ∧ 97 ∉ S ∧ 98 ∉ S ∧ 99 ∉ S) : JY t := by
  intro q hq
  rw [(hk 69 hd.1).1, (hk 70 hd.2.1).1, (hk 71 hd.2.2.1).2, (hk 97 hd.2.2.2.1).1, (hk 98 hd.2.2.2.2.1).1, (hk 99 hd.2.2.2.2.2).2]
  exact h q hq
theorem ne_of_nI {a b : Nat} (h : a ≠ b) (ha : a < 2 ^ 31) (hb : b < 2 ^ 31) : nI a ≠ nI b := fun z => h ((nI_eq ha hb).mp z)
theorem op_numbers (a b c : Int32) (s : zS) (h : JY s) : ∃ (r : Int32) (s1 s2 : zS), f_X7_numbers a b c s = some (r, s1) ∧ f_X8_numbers a b c s1 = some (r, s2) ∧ zk_k [69, 70, 71] s s1 ∧ zk_m [97, 98, 99] s1 s2 ∧ JY s2 := by
  have out : ∀ r : Int32, f_X7_numbers a b c s = some (r, s) → f_X8_numbers a b c s = some (r, zs_i s 76 0 0) → ∃ (r : Int32) (s1 s2 : zS), f_X7_numbers a b c s = some (r, s1) ∧ f_X8_numbers a b c s1 = some (r, s2) ∧ zk_k [69, 70, 71] s s1 ∧ zk_m [97, 98, 99] s1 s2 ∧ JY s2 := by
    intro r h1 h2
    exact ⟨r, s, _, h1, h2, zk_k.rf, zk_m.th, h.keep (zk_k.rf.i (S := [76]) (by simp)) (by decide)⟩
  rcases i_cases a 4 (by decide) with ⟨ha, -⟩ | ⟨ha, ha2⟩ | ⟨t, ht, rfl⟩
  · refine out (-2) ?_ ?_
    · rw [f_X7_numbers, one_neg s ha, zbd_some, if_pos rfl]; rfl
    · rw [f_X8_numbers, zb_eq, wi_neg _ ha, zbd_some, if_pos rfl]; rfl
  · refine out (-2) ?_ ?_
    · rw [f_X7_numbers, one_big s ha2, zbd_some, if_pos rfl]; rfl
    · rw [f_X8_numbers, zb_eq, wi_big _ (m := 3) (by decide) rfl ha2, zbd_some, if_pos rfl]; rfl
  have e7 : f_X7_numbers (nI t) b c s = (if b < 0 then (f_X7_numbers_20 s) else if b < nI 4 then (if c < 0 then (f_X7_numbers_33 s) else if c ≤ nI 40 then (zbd (f_X6_renew (nI t) b c s) fun _ s3 => some ((0 : Int32), s3)) else f_X7_numbers_33 s) else f_X7_numbers_20 s) := by
    rw [f_X7_numbers, one_in s ht, zbd_some, if_neg (by decide)]
  have e8 : ∀ z : zS, f_X8_numbers (nI t) b c z = (zbd (f_X8_within (b.toInt64) (0 : Int64) (3 : Int64) (zs_i z 76 0 0)) fun r6 s7 => if ¬ r6 = 0 then (zbd (f_X8_within (c.toInt64) (0 : Int64) (40 : Int64) s7) fun r8 s9 => if ¬ r8 = 0 then ((zw_i s9 97 (nI t) b).bind fun s10 => (zw_i s10 98 (nI t) c).bind fun s11 => f_X8_numbers_64 zFU (nI t) c (0 : Int32) s11) else some ((-3 : Int32), s9)) else f_X8_numbers_29 s7) := by
    intro z
    rw [f_X8_numbers, zb_eq, wi_in _ (m := 3) (by omega) (by decide) rfl, zbd_some, if_neg (by decide)]
  rcases i_cases b 4 (by decide) with ⟨hb, -⟩ | ⟨hb, hb2⟩ | ⟨so, hso, rfl⟩
  · refine out (-2) ?_ ?_
    · rw [e7, if_pos hb]; rfl
    · rw [e8, wi_neg _ hb, zbd_some, if_neg (by decide)]; rfl
  · refine out (-2) ?_ ?_
    · rw [e7, if_neg hb, if_neg (Int32.not_lt.mpr hb2)]; rfl
    · rw [e8, wi_big _ (m := 3) (by decide) rfl hb2, zbd_some, if_neg (by decide)]; rfl
  rcases i_cases c 41 (by decide) with ⟨hc, -⟩ | ⟨hc, hc2⟩ | ⟨z, hz, rfl⟩
  · refine out (-3) ?_ ?_
    · rw [e7, if_neg (nI_pos (by omega)), if_pos (nI_lt hso (by decide)), if_pos hc]; rfl
    · rw [e8, wi_in _ (m := 3) (by omega) (by decide) rfl, zbd_some, if_pos (by decide), wi_neg _ hc, zbd_some, if_neg (by decide)]
  · refine out (-3) ?_ ?_
    · rw [e7, if_neg (nI_pos (by omega)), if_pos (nI_lt hso (by decide)), if_neg hc, if_neg (fun q => ?_)]
      · rfl
      · have h1 := Int32.le_iff_toInt_le.mp q
        have h2 := Int32.le_iff_toInt_le.mp hc2
        rw [nI_toInt (by decide)] at h2 h1
        omega
    · rw [e8, wi_in _ (m := 3) (by omega) (by decide) rfl, zbd_some, if_pos (by decide), wi_big _ (m := 40) (by decide) rfl hc2, zbd_some, if_neg (by decide)]
  -- all is well
  obtain ⟨s1, a1, a2, a3, a4⟩ := renew_loop ht 40 0 zFU (zs_i (zs_i s 69 t (nI so)) 70 t (nI z)) (by omega) (by decide)
  have r7 : f_X7_numbers (nI t) (nI so) (nI z) s = some (0, s1) := by
    rw [e7, if_neg (nI_pos (by omega)), if_pos (nI_lt hso (by decide)), if_neg (nI_pos (by omega)), if_pos (nI_le (by omega) (by decide)), f_X6_renew, one_in s ht, zbd_some, if_pos (by decide), wr_69 s (v := nI so) t rfl ht, Option.bind_some, wr_70 _ (v := nI z) t rfl ht, Option.bind_some, show f_X6_renew_26 zFU (nI t) 0 _ = _ from a1, zbd_some]
  obtain ⟨s2, b1, b2, b3, b4⟩ := numbers_loop ht (c := z) (by omega) z 0 zFU (zs_i (zs_i (zs_i s1 76 0 0) 97 t (nI so)) 98 t (nI z)) (by omega) (Nat.lt_of_le_of_lt (Nat.le_of_lt_succ hz) (by decide))
  have r8 : f_X8_numbers (nI t) (nI so) (nI z) s1 = some (0, s2) := by
    rw [e8, wi_in _ (m := 3) (by omega) (by decide) rfl, zbd_some, if_pos (by decide), wi_in _ (m := 40) (by omega) (by decide) rfl, zbd_some, if_pos (by decide), wr_97 _ (v := nI so) t rfl ht, Option.bind_some, wr_98 _ (v := nI z) t rfl ht, Option.bind_some, show f_X8_numbers_64 zFU (nI t) (nI z) 0 _ = _ from b1]
  have k1 : zk_k [69, 70, 71] s s1 := by
    intro q hq
    simp only [List.mem_cons, List.not_mem_nil, or_false, not_or] at hq
    refine ⟨?_, by rw [a3 q hq.2.2]; rfl⟩
    rw [a2, zs_i_n _ _ _ _ _ hq.2.1, zs_i_n _ _ _ _ _ hq.1]
  have k2 : zk_m [97, 98, 99] s1 s2 := by
    refine ⟨fun q hq => ?_, ?_, ?_, ?_⟩
    · simp only [List.mem_cons, List.not_mem_nil, or_false, not_or] at hq
      refine ⟨?_, by rw [b3 q hq.2.2.2]; rfl⟩
      rw [b2, zs_i_n _ _ _ _ _ hq.2.2.1, zs_i_n _ _ _ _ _ hq.2.1, zs_i_n _ _ _ _ _ hq.1]
    · rw [b2]; rfl
    · rw [b2]; rfl
    · rw [b2]; exact ⟨rfl, rfl⟩
  refine ⟨0, s1, s2, r7, r8, k1, k2, fun q hq => ?_⟩
  have c69 : s2.1 69 = s1.1 69 := (k2.1 69 (by decide)).1
  have c70 : s2.1 70 = s1.1 70 := (k2.1 70 (by decide)).1
  have c71 : s2.2 71 = s1.2 71 := (k2.1 71 (by decide)).2
  have d69 : s1.1 69 = upd (s.1 69) t (nI so) := by rw [a2]; rfl
  have d70 : s1.1 70 = upd (s.1 70) t (nI z) := by rw [a2]; rfl
  have d97 : s2.1 97 = upd (s1.1 97) t (nI so) := by rw [b2]; rfl
  have d98 : s2.1 98 = upd (s1.1 98) t (nI z) := by rw [b2]; rfl
  have e97 : s1.1 97 = s.1 97 := (k1 97 (by decide)).1
  have e98 : s1.1 98 = s.1 98 := (k1 98 (by decide)).1
  have e99 : s1.2 99 = s.2 99 := (k1 99 (by decide)).2
  rw [c69, c70, d69, d70, d97, d98, e97, e98]
  by_cases hqt : q = t
  · subst hqt
    simp only [pk_us]
    refine ⟨trivial, Or.inr ⟨⟨so, hso, rfl⟩, z, by omega, rfl, rfl, fun i hi => ?_⟩⟩
    rw [c71, a4, b4, if_pos (by omega), if_pos (by omega)]
  · rw [pk_un hqt, pk_un hqt, pk_un hqt, pk_un hqt]
    obtain ⟨h1, h2⟩ := h q hq
    refine ⟨h1, ?_⟩
    rcases h2 with h2 | ⟨h2, y, hy, g1, g2, g3⟩
    · exact Or.inl h2
    · refine Or.inr ⟨h2, y, hy, g1, g2, fun i hi => ?_⟩
      rw [c71, a4, b4, if_neg (by omega), if_neg (by omega)]
      show s.2 71 _ = s1.2 99 _
      rw [e99]
      exact g3 i hi

/-- write -/
def zcut (so : Nat) (v : Int64) : Int64 := if so = 0 then v.toInt32.toInt8.toInt32.toInt64 else if so = 1 then v.toInt32.toInt16.toInt32.toInt64 else if so = 2 then v.toInt32.toInt64 else v
theorem cut7 {so : Nat} (h : so < 4) (v : Int64) (s : zS) : f_X6_cutTo (nI so) v s = some (zcut so v, s) := by
  unfold f_X6_cutTo zcut
  match so, h with
  | 0, _ => rfl
  | 1, _ => rfl
  | 2, _ => rfl
  | 3, _ => rfl
theorem cut8 {so : Nat} (h : so < 4) (v : Int64) (s : zS) : f_X8_cut v (nI so) s = some (zcut so v, s) := by
  unfold f_X8_cut f_X8_cut_35 zcut
  match so, h with
  | 0, _ => rfl
  | 1, _ => rfl
  | 2, _ => rfl
  | 3, _ => rfl
theorem wi_sub {z : Nat} (x : Int32) (s : zS) (hz : z < 2 ^ 30) : f_X8_within x.toInt64 0 ((nI z - 1).toInt64) s = some (if 0 ≤ x.toInt ∧ x.toInt ≤ (z : Int) - 1 then 1 else 0, s) := by
  have e : (nI z - 1).toInt64.toInt = (z : Int) - 1 := by
    rw [Int32.toInt_toInt64]
    exact pk_sub_toInt (a := z) (b := 1) hz (by decide)
  rw [wi_ok]
  have h1 : ((0 : Int64) ≤ x.toInt64) ↔ 0 ≤ x.toInt := l_ge (n := 0) rfl
  have h2 := l_le (x := x) e
  simp only [h1, h2]
theorem op_write (a b : Int32) (v : Int64) (s : zS) (h : JY s) : ∃ (r : Int64) (s1 s2 : zS), f_X7_write a b v s = some (r, s1) ∧ f_X8_write a b v s1 = some (r, s2) ∧ zk_k [69, 70, 71] s s1 ∧ zk_m [97, 98, 99] s1 s2 ∧ JY s2 := by
  have out : ∀ r : Int64, f_X7_write a b v s = some (r, s) → f_X8_write a b v s = some (r, zs_i s 76 0 0) → ∃ (r : Int64) (s1 s2 : zS), f_X7_write a b v s = some (r, s1) ∧ f_X8_write a b v s1 = some (r, s2) ∧ zk_k [69, 70, 71] s s1 ∧ zk_m [97, 98, 99] s1 s2 ∧ JY s2 := by
    intro r h1 h2
    exact ⟨r, s, _, h1, h2, zk_k.rf, zk_m.th, h.keep (zk_k.rf.i (S := [76]) (by simp)) (by decide)⟩
  rcases i_cases a 4 (by decide) with ⟨ha, -⟩ | ⟨ha, ha2⟩ | ⟨t, ht, rfl⟩
  · refine out (-2) ?_ ?_
    · rw [f_X7_write, one_neg s ha, zbd_some, if_neg (by decide)]
    · rw [f_X8_write, zb_eq, notray_neg _ ha, zbd_some, if_neg (by decide)]; rfl
  · refine out (-2) ?_ ?_
    · rw [f_X7_write, one_big s ha2, zbd_some, if_neg (by decide)]
    · rw [f_X8_write, zb_eq, notray_big _ ha2, zbd_some, if_neg (by decide)]; rfl
  obtain ⟨h1, h2⟩ := h t ht
  rcases h2 with hm | ⟨⟨so, hso, hs⟩, z, hz, g1, g2, g3⟩
  · refine out (-6) ?_ ?_
    · rw [f_X7_write, one_in s ht, zbd_some, if_pos (by decide), miss_m s ht hm, zbd_some, if_neg (by decide)]
    · rw [f_X8_write, zb_eq, notray_m _ ht (by rw [zs_i_n _ _ _ _ _ (by decide), ← h1]; exact hm), zbd_some, if_neg (by decide)]; rfl
  have e8 : ∀ y : zS, y.1 97 t = nI so → y.1 98 t = nI z → f_X8_write (nI t) b v y = (zbd (f_X8_within (b.toInt64) (0 : Int64) ((nI z - (1 : Int32)).toInt64) (zs_i y 76 0 0)) fun r5 s6 => if ¬ r5 = 0 then ((zr_i s6 97 (nI t)).bind fun x7 => zbd (f_X8_cut v x7 s6) fun r8 s9 => (zw_l s9 99 ((nI 40 * nI t) + b) r8).bind fun s10 => (zr_l s10 99 ((nI 40 * nI t) + b)).bind fun x11 => some (x11, s10)) else some ((-7 : Int64), s6)) := by
    intro y q1 q2
    rw [f_X8_write, zb_eq, notray_in _ ht hso (by rw [zs_i_n _ _ _ _ _ (by decide)]; exact q1), zbd_some, if_pos rfl, rd_98 _ t rfl ht, Option.bind_some, zs_i_n _ _ _ _ _ (by decide), q2]
  have e7 : f_X7_write (nI t) b v s = (if b < 0 then (f_X7_write_46 s) else if b < nI z then (zbd (f_X6_put (nI t) b v s) fun r7 s8 => some (r7, s8)) else f_X7_write_46 s) := by
    rw [f_X7_write, one_in s ht, zbd_some, if_pos (by decide), miss_h s ht hso hs, zbd_some, if_pos rfl, size_h s ht hso hs g1]
    rfl
  rcases i_cases b z (by omega) with ⟨hb, -⟩ | ⟨hb, hb2⟩ | ⟨i, hi, rfl⟩
  · refine out (-7) ?_ ?_
    · rw [e7, if_pos hb]; rfl
    · rw [e8 s (by rw [← h1]; exact hs) g2, wi_sub _ _ (by omega), if_neg (fun q => by
        have := Int32.lt_iff_toInt_lt.mp hb
        have h0 : (0 : Int32).toInt = 0 := rfl
        omega), zbd_some, if_neg (by decide)]
  · refine out (-7) ?_ ?_
    · rw [e7, if_neg hb, if_neg (Int32.not_lt.mpr hb2)]; rfl
    · rw [e8 s (by rw [← h1]; exact hs) g2, wi_sub _ _ (by omega), if_neg (fun q => by
        have := Int32.le_iff_toInt_le.mp hb2
        rw [nI_toInt (by omega)] at this
        omega), zbd_some, if_neg (by decide)]
  have r7 : f_X7_write (nI t) (nI i) v s = some (zcut so v, zs_l s 71 (40 * t + i) (zcut so v)) := by
    rw [e7, if_neg (nI_pos (by omega)), if_pos (nI_lt hi (by omega)), f_X6_put, if_neg (nI_pos (by omega)), size_h s ht hso hs g1, zbd_some, if_pos (nI_lt hi (by omega)), rd_69 s t rfl ht, Option.bind_some, hs, cut7 hso, zbd_some, wr_71 s (40 * t + i) (by rw [pk_mul, nI_add, Nat.mul_comm]) (by omega), Option.bind_some, zbd_some]
  have r8 : f_X8_write (nI t) (nI i) v (zs_l s 71 (40 * t + i) (zcut so v)) = some (zcut so v, zs_l (zs_i (zs_l s 71 (40 * t + i) (zcut so v)) 76 0 0) 99 (40 * t + i) (zcut so v)) := by
    rw [e8 (zs_l s 71 (40 * t + i) (zcut so v)) (by show s.1 97 t = _; rw [← h1]; exact hs) g2, wi_sub _ _ (by omega), if_pos (by rw [nI_toInt (by omega)]; omega), zbd_some, if_pos (by decide), rd_97 _ t rfl ht, Option.bind_some, zs_i_n _ _ _ _ _ (by decide), show (zs_l s 71 (40 * t + i) (zcut so v)).1 97 t = nI so by rw [show (zs_l s 71 (40 * t + i) (zcut so v)).1 97 t = s.1 97 t from rfl, ← h1]; exact hs, cut8 hso, zbd_some, wr_99 _ (40 * t + i) (by rw [pk_mul, nI_add]) (by omega), Option.bind_some, rd_99 _ (40 * t + i) (by rw [pk_mul, nI_add]) (by omega), Option.bind_some, zs_l_v]
  refine ⟨_, _, _, r7, r8, zk_k.rf.l (by simp), (zk_m.th).l (by simp), fun q hq => ?_⟩
  obtain ⟨k1, k2⟩ := h q hq
  refine ⟨k1, ?_⟩
  rcases k2 with k2 | ⟨k2, y, hy, m1, m2, m3⟩
  · exact Or.inl k2
  · refine Or.inr ⟨k2, y, hy, m1, m2, fun j hj => ?_⟩
    show (zs_l s 71 (40 * t + i) (zcut so v)).2 71 _ = (zs_l (zs_i (zs_l s 71 (40 * t + i) (zcut so v)) 76 0 0) 99 (40 * t + i) (zcut so v)).2 99 _
    by_cases e : 40 * q + j = 40 * t + i
    · rw [e, zs_l_v, zs_l_v]
    · rw [zs_l_o _ _ _ _ _ e, zs_l_o _ _ _ _ _ e]
      exact m3 j hj
/-- fault -/
def JF (s : zS) : Prop := s.1 30 1 = s.1 76 13 ∧ s.1 30 2 = s.1 76 14
theorem op_fault (a : Int32) (s : zS) (h : JF s) : ∃ (r : Int32) (s2 : zS), f_X7_fault a s = some (r, s) ∧ f_X8_fault a s = some (r, s2) ∧ zk_m [] s s2 := by
  unfold f_X7_fault f_X7_fault_28 f_X8_fault f_X8_fault_29
  rw [zb_eq, zs_i_o _ _ _ _ _ (by decide : (14 : Nat) ≠ 0), zs_i_o _ _ _ _ _ (by decide : (13 : Nat) ≠ 0), ← h.1, ← h.2]
  by_cases h0 : a = 0
  · rw [if_neg (fun z => z h0), if_neg (fun z => z h0)]
    exact ⟨_, _, rfl, rfl, zk_m.th⟩
  · rw [if_pos h0, if_pos h0]
    by_cases h1 : a = 1
    · rw [if_neg (fun z => z h1), if_neg (fun z => z h1)]
      exact ⟨_, _, rfl, rfl, zk_m.th⟩
    · rw [if_pos h1, if_pos h1]
      exact ⟨_, _, rfl, rfl, zk_m.th⟩
