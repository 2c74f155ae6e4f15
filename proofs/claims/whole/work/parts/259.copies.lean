def CPY (D S : Nat) (s s' : zS) : Prop := (∀ j, (j = 0 ∨ j = 1 ∨ (8 ≤ j ∧ j ≤ 12)) → s'.1 D j = s.1 S j) ∧ (∀ j, j < 7 → s'.1 (D + 1) j = s.1 (S + 1) j ∧ s'.1 (D + 2) j = s.1 (S + 2) j ∧ s'.1 (D + 3) j = s.1 (S + 3) j ∧ s'.1 (D + 4) j = s.1 (S + 4) j ∧ s'.1 (D + 5) j = s.1 (S + 5) j) ∧ (∀ j, j < 900 → s'.1 (D + 6) j = s.1 (S + 6) j) ∧ ∀ j, j < 7 → s'.1 (D + 7) j = s.1 (D + 7) j + 1
theorem cpp {a b : Nat} (s : zS) (hda : zk_d a = 0) (hdb : zk_d b = 0) (hna : zk_n a = 7) (hnb : zk_n b = 7) : f_X5_copyPeople a b s = some ((), zs_c s a 0 b 0 7) := by
  rw [f_X5_copyPeople, wc_ok (x := (0 : Int32)) (y := (0 : Int32)) (sp := 0) (dp := 0) (m := 7) hda hdb hna hnb rfl rfl rfl (by decide) (by decide) (by decide) (by decide) (by decide), Option.bind_some]
theorem zsc_i0 {s : zS} {a b m j : Nat} (h : j < m) : (zs_c s a 0 b 0 m).1 b j = s.1 a j := by
  rw [zsc_in (by omega) (by omega)]
  exact congrArg (s.1 a) (by omega)
theorem zsc_n {s : zS} {a b sp dp m q : Nat} (h : q ≠ b) : (zs_c s a sp b dp m).1 q = s.1 q := ((zsc_k (S := [b]) (by simp)) q (by simpa using h)).1
theorem cp_12_3 (s : zS) : ∃ s', f_X5_copyFrom_12_3 s = some ((), s') ∧ zk_k [12, 13, 14, 15, 16, 17, 18, 19] s s' ∧ CPY 12 3 s s' := by
  obtain ⟨t1, e1⟩ : ∃ t, t = zs_i (zs_i s 12 0 (s.1 3 0)) 12 1 (s.1 3 1) := ⟨_, rfl⟩
  obtain ⟨t2, e2⟩ : ∃ t, t = zs_c t1 4 0 13 0 7 := ⟨_, rfl⟩
  obtain ⟨t3, e3⟩ : ∃ t, t = zs_c t2 5 0 14 0 7 := ⟨_, rfl⟩
  obtain ⟨t4, e4⟩ : ∃ t, t = zs_c t3 6 0 15 0 7 := ⟨_, rfl⟩
  obtain ⟨t5, e5⟩ : ∃ t, t = zs_c t4 7 0 16 0 7 := ⟨_, rfl⟩
  obtain ⟨t6, e6⟩ : ∃ t, t = zs_c t5 8 0 17 0 7 := ⟨_, rfl⟩
  obtain ⟨t7, e7⟩ : ∃ t, t = zs_c t6 9 0 18 0 900 := ⟨_, rfl⟩
  obtain ⟨t8, e8⟩ : ∃ t, t = zs_i (zs_i (zs_i (zs_i (zs_i t7 12 8 (t7.1 3 8)) 12 9 (t7.1 3 9)) 12 10 (t7.1 3 10)) 12 11 (t7.1 3 11)) 12 12 (t7.1 3 12) := ⟨_, rfl⟩
  have hne : (3 : Nat) ≠ 12 := by decide
  have ef : f_X5_copyFrom_12_3 s = f_X5_copyFrom_12_3_129 zFU 0 t8 := by
    rw [f_X5_copyFrom_12_3, zb_eq, zb_eq, zs_i_n _ _ _ _ _ hne, ← e1, cpp t1 zd_4 zd_13 zn_4 zn_13, zbd_some, ← e2, cpp t2 zd_5 zd_14 zn_5 zn_14, zbd_some, ← e3, cpp t3 zd_6 zd_15 zn_6 zn_15, zbd_some, ← e4, cpp t4 zd_7 zd_16 zn_7 zn_16, zbd_some, ← e5, cpp t5 zd_8 zd_17 zn_8 zn_17, zbd_some, ← e6, wc_ok (x := (0 : Int32)) (y := (0 : Int32)) (sp := 0) (dp := 0) (m := 900) zd_9 zd_18 zn_9 zn_18 rfl rfl rfl (by decide) (by decide) (by decide) (by decide) (by decide), Option.bind_some, ← e7, zb_eq, zb_eq, zb_eq, zb_eq, zb_eq]
    simp only [zs_i_n _ _ _ _ _ hne]
    rw [← e8]
  have k1 : zk_k [12] s t1 := by rw [e1]; exact (zk_k.rf.i (by simp)).i (by simp)
  have k2 : zk_k [13] t1 t2 := by rw [e2]; exact zsc_k (by simp)
  have k3 : zk_k [14] t2 t3 := by rw [e3]; exact zsc_k (by simp)
  have k4 : zk_k [15] t3 t4 := by rw [e4]; exact zsc_k (by simp)
  have k5 : zk_k [16] t4 t5 := by rw [e5]; exact zsc_k (by simp)
  have k6 : zk_k [17] t5 t6 := by rw [e6]; exact zsc_k (by simp)
  have k7 : zk_k [18] t6 t7 := by rw [e7]; exact zsc_k (by simp)
  have k8 : zk_k [12] t7 t8 := by rw [e8]; exact ((((zk_k.rf.i (by simp)).i (by simp)).i (by simp)).i (by simp)).i (by simp)
  have ks : zk_k [12, 13, 14, 15, 16, 17, 18, 19] s t8 := ((((((((k1.mono (by decide)).tr (k2.mono (by decide))).tr (k3.mono (by decide))).tr (k4.mono (by decide))).tr (k5.mono (by decide))).tr (k6.mono (by decide))).tr (k7.mono (by decide))).tr (k8.mono (by decide)))
  obtain ⟨q', t, g1, g2, g3, g4⟩ := zlp (fun q i t => f_X5_copyFrom_12_3_129 q (nI i) t) 7 (fun i t => zk_k [19] t8 t ∧ (∀ j, j < i → t.1 19 j = t8.1 19 j + 1) ∧ ∀ j, i ≤ j → t.1 19 j = t8.1 19 j)
    (fun q i t hi h => by
      show ∃ a', f_X5_copyFrom_12_3_129 (q + 1) (nI i) t = f_X5_copyFrom_12_3_129 q (nI (i + 1)) a' ∧ _
      rw [f_X5_copyFrom_12_3_129, if_neg (nI_ge hi (by omega)), rd_19 t i rfl hi, Option.bind_some, h.2.2 i (Nat.le_refl _), wr_19 t i rfl hi, Option.bind_some, zb_eq, nI_1]
      refine ⟨_, rfl, h.1.i (by simp), fun j hj => ?_, fun j hj => by rw [zs_i_o _ _ _ _ _ (by omega)]; exact h.2.2 j (by omega)⟩
      by_cases e : j = i
      · subst e; rw [zs_i_v]
      · rw [zs_i_o _ _ _ _ _ e]; exact h.2.1 j (by omega)) 7 0 zFU t8 (by decide) (by decide) ⟨zk_k.rf, fun j hj => by omega, fun _ _ => rfl⟩
  have g1' : f_X5_copyFrom_12_3_129 zFU 0 t8 = f_X5_copyFrom_12_3_129 (q' + 1) (nI 7) t := g1
  refine ⟨t, ?_, ks.tr (g2.mono (by decide)), ⟨fun j hj => ?_, fun j hj => ⟨?_, ?_, ?_, ?_, ?_⟩, fun j hj => ?_, fun j hj => ?_⟩⟩
  · rw [ef, g1', f_X5_copyFrom_12_3_129, if_pos (nI_le (Nat.le_refl _) (by decide))]
  · have hS : t7.1 3 = s.1 3 := by rw [(k7 3 (by decide)).1, (k6 3 (by decide)).1, (k5 3 (by decide)).1, (k4 3 (by decide)).1, (k3 3 (by decide)).1, (k2 3 (by decide)).1, (k1 3 (by decide)).1]
    have hD : t7.1 12 = t1.1 12 := by rw [(k7 12 (by decide)).1, (k6 12 (by decide)).1, (k5 12 (by decide)).1, (k4 12 (by decide)).1, (k3 12 (by decide)).1, (k2 12 (by decide)).1]
    rw [(g2 12 (by decide)).1, e8, ← hS]
    rcases (by omega : j = 0 ∨ j = 1 ∨ j = 8 ∨ j = 9 ∨ j = 10 ∨ j = 11 ∨ j = 12) with rfl | rfl | rfl | rfl | rfl | rfl | rfl
    · rw [zs_i_o _ _ _ _ _ (by decide), zs_i_o _ _ _ _ _ (by decide), zs_i_o _ _ _ _ _ (by decide), zs_i_o _ _ _ _ _ (by decide), zs_i_o _ _ _ _ _ (by decide), hD, e1, zs_i_o _ _ _ _ _ (by decide), zs_i_v, hS]
    · rw [zs_i_o _ _ _ _ _ (by decide), zs_i_o _ _ _ _ _ (by decide), zs_i_o _ _ _ _ _ (by decide), zs_i_o _ _ _ _ _ (by decide), zs_i_o _ _ _ _ _ (by decide), hD, e1, zs_i_v, hS]
    · rw [zs_i_o _ _ _ _ _ (by decide), zs_i_o _ _ _ _ _ (by decide), zs_i_o _ _ _ _ _ (by decide), zs_i_o _ _ _ _ _ (by decide), zs_i_v]
    · rw [zs_i_o _ _ _ _ _ (by decide), zs_i_o _ _ _ _ _ (by decide), zs_i_o _ _ _ _ _ (by decide), zs_i_v]
    · rw [zs_i_o _ _ _ _ _ (by decide), zs_i_o _ _ _ _ _ (by decide), zs_i_v]
    · rw [zs_i_o _ _ _ _ _ (by decide), zs_i_v]
    · rw [zs_i_v]
  · show t.1 13 j = s.1 4 j
    rw [(g2 13 (by decide)).1, (k8 13 (by decide)).1, (k7 13 (by decide)).1, (k6 13 (by decide)).1, (k5 13 (by decide)).1, (k4 13 (by decide)).1, (k3 13 (by decide)).1, e2, zsc_i0 hj, (k1 4 (by decide)).1]
  · show t.1 14 j = s.1 5 j
    rw [(g2 14 (by decide)).1, (k8 14 (by decide)).1, (k7 14 (by decide)).1, (k6 14 (by decide)).1, (k5 14 (by decide)).1, (k4 14 (by decide)).1, e3, zsc_i0 hj, (k2 5 (by decide)).1, (k1 5 (by decide)).1]
  · show t.1 15 j = s.1 6 j
    rw [(g2 15 (by decide)).1, (k8 15 (by decide)).1, (k7 15 (by decide)).1, (k6 15 (by decide)).1, (k5 15 (by decide)).1, e4, zsc_i0 hj, (k3 6 (by decide)).1, (k2 6 (by decide)).1, (k1 6 (by decide)).1]
  · show t.1 16 j = s.1 7 j
    rw [(g2 16 (by decide)).1, (k8 16 (by decide)).1, (k7 16 (by decide)).1, (k6 16 (by decide)).1, e5, zsc_i0 hj, (k4 7 (by decide)).1, (k3 7 (by decide)).1, (k2 7 (by decide)).1, (k1 7 (by decide)).1]
  · show t.1 17 j = s.1 8 j
    rw [(g2 17 (by decide)).1, (k8 17 (by decide)).1, (k7 17 (by decide)).1, e6, zsc_i0 hj, (k5 8 (by decide)).1, (k4 8 (by decide)).1, (k3 8 (by decide)).1, (k2 8 (by decide)).1, (k1 8 (by decide)).1]
  · show t.1 18 j = s.1 9 j
    rw [(g2 18 (by decide)).1, (k8 18 (by decide)).1, e7, zsc_i0 hj, (k6 9 (by decide)).1, (k5 9 (by decide)).1, (k4 9 (by decide)).1, (k3 9 (by decide)).1, (k2 9 (by decide)).1, (k1 9 (by decide)).1]
  · show t.1 19 j = s.1 19 j + 1
    rw [g3 j hj, (k8 19 (by decide)).1, (k7 19 (by decide)).1, (k6 19 (by decide)).1, (k5 19 (by decide)).1, (k4 19 (by decide)).1, (k3 19 (by decide)).1, (k2 19 (by decide)).1, (k1 19 (by decide)).1]
theorem cp_21_3 (s : zS) : ∃ s', f_X5_copyFrom_21_3 s = some ((), s') ∧ zk_k [21, 22, 23, 24, 25, 26, 27, 28] s s' ∧ CPY 21 3 s s' := by
  obtain ⟨t1, e1⟩ : ∃ t, t = zs_i (zs_i s 21 0 (s.1 3 0)) 21 1 (s.1 3 1) := ⟨_, rfl⟩
  obtain ⟨t2, e2⟩ : ∃ t, t = zs_c t1 4 0 22 0 7 := ⟨_, rfl⟩
  obtain ⟨t3, e3⟩ : ∃ t, t = zs_c t2 5 0 23 0 7 := ⟨_, rfl⟩
  obtain ⟨t4, e4⟩ : ∃ t, t = zs_c t3 6 0 24 0 7 := ⟨_, rfl⟩
  obtain ⟨t5, e5⟩ : ∃ t, t = zs_c t4 7 0 25 0 7 := ⟨_, rfl⟩
  obtain ⟨t6, e6⟩ : ∃ t, t = zs_c t5 8 0 26 0 7 := ⟨_, rfl⟩
  obtain ⟨t7, e7⟩ : ∃ t, t = zs_c t6 9 0 27 0 900 := ⟨_, rfl⟩
  obtain ⟨t8, e8⟩ : ∃ t, t = zs_i (zs_i (zs_i (zs_i (zs_i t7 21 8 (t7.1 3 8)) 21 9 (t7.1 3 9)) 21 10 (t7.1 3 10)) 21 11 (t7.1 3 11)) 21 12 (t7.1 3 12) := ⟨_, rfl⟩
  have hne : (3 : Nat) ≠ 21 := by decide
  have ef : f_X5_copyFrom_21_3 s = f_X5_copyFrom_21_3_129 zFU 0 t8 := by
    rw [f_X5_copyFrom_21_3, zb_eq, zb_eq, zs_i_n _ _ _ _ _ hne, ← e1, cpp t1 zd_4 zd_22 zn_4 zn_22, zbd_some, ← e2, cpp t2 zd_5 zd_23 zn_5 zn_23, zbd_some, ← e3, cpp t3 zd_6 zd_24 zn_6 zn_24, zbd_some, ← e4, cpp t4 zd_7 zd_25 zn_7 zn_25, zbd_some, ← e5, cpp t5 zd_8 zd_26 zn_8 zn_26, zbd_some, ← e6, wc_ok (x := (0 : Int32)) (y := (0 : Int32)) (sp := 0) (dp := 0) (m := 900) zd_9 zd_27 zn_9 zn_27 rfl rfl rfl (by decide) (by decide) (by decide) (by decide) (by decide), Option.bind_some, ← e7, zb_eq, zb_eq, zb_eq, zb_eq, zb_eq]
    simp only [zs_i_n _ _ _ _ _ hne]
    rw [← e8]
  have k1 : zk_k [21] s t1 := by rw [e1]; exact (zk_k.rf.i (by simp)).i (by simp)
  have k2 : zk_k [22] t1 t2 := by rw [e2]; exact zsc_k (by simp)
  have k3 : zk_k [23] t2 t3 := by rw [e3]; exact zsc_k (by simp)
  have k4 : zk_k [24] t3 t4 := by rw [e4]; exact zsc_k (by simp)
  have k5 : zk_k [25] t4 t5 := by rw [e5]; exact zsc_k (by simp)
  have k6 : zk_k [26] t5 t6 := by rw [e6]; exact zsc_k (by simp)
  have k7 : zk_k [27] t6 t7 := by rw [e7]; exact zsc_k (by simp)
  have k8 : zk_k [21] t7 t8 := by rw [e8]; exact ((((zk_k.rf.i (by simp)).i (by simp)).i (by simp)).i (by simp)).i (by simp)
  have ks : zk_k [21, 22, 23, 24, 25, 26, 27, 28] s t8 := ((((((((k1.mono (by decide)).tr (k2.mono (by decide))).tr (k3.mono (by decide))).tr (k4.mono (by decide))).tr (k5.mono (by decide))).tr (k6.mono (by decide))).tr (k7.mono (by decide))).tr (k8.mono (by decide)))
  obtain ⟨q', t, g1, g2, g3, g4⟩ := zlp (fun q i t => f_X5_copyFrom_21_3_129 q (nI i) t) 7 (fun i t => zk_k [28] t8 t ∧ (∀ j, j < i → t.1 28 j = t8.1 28 j + 1) ∧ ∀ j, i ≤ j → t.1 28 j = t8.1 28 j)
    (fun q i t hi h => by
      show ∃ a', f_X5_copyFrom_21_3_129 (q + 1) (nI i) t = f_X5_copyFrom_21_3_129 q (nI (i + 1)) a' ∧ _
      rw [f_X5_copyFrom_21_3_129, if_neg (nI_ge hi (by omega)), rd_28 t i rfl hi, Option.bind_some, h.2.2 i (Nat.le_refl _), wr_28 t i rfl hi, Option.bind_some, zb_eq, nI_1]
      refine ⟨_, rfl, h.1.i (by simp), fun j hj => ?_, fun j hj => by rw [zs_i_o _ _ _ _ _ (by omega)]; exact h.2.2 j (by omega)⟩
      by_cases e : j = i
      · subst e; rw [zs_i_v]
      · rw [zs_i_o _ _ _ _ _ e]; exact h.2.1 j (by omega)) 7 0 zFU t8 (by decide) (by decide) ⟨zk_k.rf, fun j hj => by omega, fun _ _ => rfl⟩
  have g1' : f_X5_copyFrom_21_3_129 zFU 0 t8 = f_X5_copyFrom_21_3_129 (q' + 1) (nI 7) t := g1
  refine ⟨t, ?_, ks.tr (g2.mono (by decide)), ⟨fun j hj => ?_, fun j hj => ⟨?_, ?_, ?_, ?_, ?_⟩, fun j hj => ?_, fun j hj => ?_⟩⟩
  · rw [ef, g1', f_X5_copyFrom_21_3_129, if_pos (nI_le (Nat.le_refl _) (by decide))]
  · have hS : t7.1 3 = s.1 3 := by rw [(k7 3 (by decide)).1, (k6 3 (by decide)).1, (k5 3 (by decide)).1, (k4 3 (by decide)).1, (k3 3 (by decide)).1, (k2 3 (by decide)).1, (k1 3 (by decide)).1]
    have hD : t7.1 21 = t1.1 21 := by rw [(k7 21 (by decide)).1, (k6 21 (by decide)).1, (k5 21 (by decide)).1, (k4 21 (by decide)).1, (k3 21 (by decide)).1, (k2 21 (by decide)).1]
    rw [(g2 21 (by decide)).1, e8, ← hS]
    rcases (by omega : j = 0 ∨ j = 1 ∨ j = 8 ∨ j = 9 ∨ j = 10 ∨ j = 11 ∨ j = 12) with rfl | rfl | rfl | rfl | rfl | rfl | rfl
    · rw [zs_i_o _ _ _ _ _ (by decide), zs_i_o _ _ _ _ _ (by decide), zs_i_o _ _ _ _ _ (by decide), zs_i_o _ _ _ _ _ (by decide), zs_i_o _ _ _ _ _ (by decide), hD, e1, zs_i_o _ _ _ _ _ (by decide), zs_i_v, hS]
    · rw [zs_i_o _ _ _ _ _ (by decide), zs_i_o _ _ _ _ _ (by decide), zs_i_o _ _ _ _ _ (by decide), zs_i_o _ _ _ _ _ (by decide), zs_i_o _ _ _ _ _ (by decide), hD, e1, zs_i_v, hS]
    · rw [zs_i_o _ _ _ _ _ (by decide), zs_i_o _ _ _ _ _ (by decide), zs_i_o _ _ _ _ _ (by decide), zs_i_o _ _ _ _ _ (by decide), zs_i_v]
    · rw [zs_i_o _ _ _ _ _ (by decide), zs_i_o _ _ _ _ _ (by decide), zs_i_o _ _ _ _ _ (by decide), zs_i_v]
    · rw [zs_i_o _ _ _ _ _ (by decide), zs_i_o _ _ _ _ _ (by decide), zs_i_v]
    · rw [zs_i_o _ _ _ _ _ (by decide), zs_i_v]
    · rw [zs_i_v]
  · show t.1 22 j = s.1 4 j
    rw [(g2 22 (by decide)).1, (k8 22 (by decide)).1, (k7 22 (by decide)).1, (k6 22 (by decide)).1, (k5 22 (by decide)).1, (k4 22 (by decide)).1, (k3 22 (by decide)).1, e2, zsc_i0 hj, (k1 4 (by decide)).1]
  · show t.1 23 j = s.1 5 j
    rw [(g2 23 (by decide)).1, (k8 23 (by decide)).1, (k7 23 (by decide)).1, (k6 23 (by decide)).1, (k5 23 (by decide)).1, (k4 23 (by decide)).1, e3, zsc_i0 hj, (k2 5 (by decide)).1, (k1 5 (by decide)).1]
  · show t.1 24 j = s.1 6 j
    rw [(g2 24 (by decide)).1, (k8 24 (by decide)).1, (k7 24 (by decide)).1, (k6 24 (by decide)).1, (k5 24 (by decide)).1, e4, zsc_i0 hj, (k3 6 (by decide)).1, (k2 6 (by decide)).1, (k1 6 (by decide)).1]
  · show t.1 25 j = s.1 7 j
    rw [(g2 25 (by decide)).1, (k8 25 (by decide)).1, (k7 25 (by decide)).1, (k6 25 (by decide)).1, e5, zsc_i0 hj, (k4 7 (by decide)).1, (k3 7 (by decide)).1, (k2 7 (by decide)).1, (k1 7 (by decide)).1]
  · show t.1 26 j = s.1 8 j
    rw [(g2 26 (by decide)).1, (k8 26 (by decide)).1, (k7 26 (by decide)).1, e6, zsc_i0 hj, (k5 8 (by decide)).1, (k4 8 (by decide)).1, (k3 8 (by decide)).1, (k2 8 (by decide)).1, (k1 8 (by decide)).1]
  · show t.1 27 j = s.1 9 j
    rw [(g2 27 (by decide)).1, (k8 27 (by decide)).1, e7, zsc_i0 hj, (k6 9 (by decide)).1, (k5 9 (by decide)).1, (k4 9 (by decide)).1, (k3 9 (by decide)).1, (k2 9 (by decide)).1, (k1 9 (by decide)).1]
  · show t.1 28 j = s.1 28 j + 1
    rw [g3 j hj, (k8 28 (by decide)).1, (k7 28 (by decide)).1, (k6 28 (by decide)).1, (k5 28 (by decide)).1, (k4 28 (by decide)).1, (k3 28 (by decide)).1, (k2 28 (by decide)).1, (k1 28 (by decide)).1]
theorem cp_3_12 (s : zS) : ∃ s', f_X5_copyFrom_3_12 s = some ((), s') ∧ zk_k [3, 4, 5, 6, 7, 8, 9, 10] s s' ∧ CPY 3 12 s s' := by
  obtain ⟨t1, e1⟩ : ∃ t, t = zs_i (zs_i s 3 0 (s.1 12 0)) 3 1 (s.1 12 1) := ⟨_, rfl⟩
  obtain ⟨t2, e2⟩ : ∃ t, t = zs_c t1 13 0 4 0 7 := ⟨_, rfl⟩
  obtain ⟨t3, e3⟩ : ∃ t, t = zs_c t2 14 0 5 0 7 := ⟨_, rfl⟩
  obtain ⟨t4, e4⟩ : ∃ t, t = zs_c t3 15 0 6 0 7 := ⟨_, rfl⟩
  obtain ⟨t5, e5⟩ : ∃ t, t = zs_c t4 16 0 7 0 7 := ⟨_, rfl⟩
  obtain ⟨t6, e6⟩ : ∃ t, t = zs_c t5 17 0 8 0 7 := ⟨_, rfl⟩
  obtain ⟨t7, e7⟩ : ∃ t, t = zs_c t6 18 0 9 0 900 := ⟨_, rfl⟩
  obtain ⟨t8, e8⟩ : ∃ t, t = zs_i (zs_i (zs_i (zs_i (zs_i t7 3 8 (t7.1 12 8)) 3 9 (t7.1 12 9)) 3 10 (t7.1 12 10)) 3 11 (t7.1 12 11)) 3 12 (t7.1 12 12) := ⟨_, rfl⟩
  have hne : (12 : Nat) ≠ 3 := by decide
  have ef : f_X5_copyFrom_3_12 s = f_X5_copyFrom_3_12_129 zFU 0 t8 := by
    rw [f_X5_copyFrom_3_12, zb_eq, zb_eq, zs_i_n _ _ _ _ _ hne, ← e1, cpp t1 zd_13 zd_4 zn_13 zn_4, zbd_some, ← e2, cpp t2 zd_14 zd_5 zn_14 zn_5, zbd_some, ← e3, cpp t3 zd_15 zd_6 zn_15 zn_6, zbd_some, ← e4, cpp t4 zd_16 zd_7 zn_16 zn_7, zbd_some, ← e5, cpp t5 zd_17 zd_8 zn_17 zn_8, zbd_some, ← e6, wc_ok (x := (0 : Int32)) (y := (0 : Int32)) (sp := 0) (dp := 0) (m := 900) zd_18 zd_9 zn_18 zn_9 rfl rfl rfl (by decide) (by decide) (by decide) (by decide) (by decide), Option.bind_some, ← e7, zb_eq, zb_eq, zb_eq, zb_eq, zb_eq]
    simp only [zs_i_n _ _ _ _ _ hne]
    rw [← e8]
  have k1 : zk_k [3] s t1 := by rw [e1]; exact (zk_k.rf.i (by simp)).i (by simp)
  have k2 : zk_k [4] t1 t2 := by rw [e2]; exact zsc_k (by simp)
  have k3 : zk_k [5] t2 t3 := by rw [e3]; exact zsc_k (by simp)
  have k4 : zk_k [6] t3 t4 := by rw [e4]; exact zsc_k (by simp)
  have k5 : zk_k [7] t4 t5 := by rw [e5]; exact zsc_k (by simp)
  have k6 : zk_k [8] t5 t6 := by rw [e6]; exact zsc_k (by simp)
  have k7 : zk_k [9] t6 t7 := by rw [e7]; exact zsc_k (by simp)
  have k8 : zk_k [3] t7 t8 := by rw [e8]; exact ((((zk_k.rf.i (by simp)).i (by simp)).i (by simp)).i (by simp)).i (by simp)
  have ks : zk_k [3, 4, 5, 6, 7, 8, 9, 10] s t8 := ((((((((k1.mono (by decide)).tr (k2.mono (by decide))).tr (k3.mono (by decide))).tr (k4.mono (by decide))).tr (k5.mono (by decide))).tr (k6.mono (by decide))).tr (k7.mono (by decide))).tr (k8.mono (by decide)))
  obtain ⟨q', t, g1, g2, g3, g4⟩ := zlp (fun q i t => f_X5_copyFrom_3_12_129 q (nI i) t) 7 (fun i t => zk_k [10] t8 t ∧ (∀ j, j < i → t.1 10 j = t8.1 10 j + 1) ∧ ∀ j, i ≤ j → t.1 10 j = t8.1 10 j)
    (fun q i t hi h => by
      show ∃ a', f_X5_copyFrom_3_12_129 (q + 1) (nI i) t = f_X5_copyFrom_3_12_129 q (nI (i + 1)) a' ∧ _
      rw [f_X5_copyFrom_3_12_129, if_neg (nI_ge hi (by omega)), rd_10 t i rfl hi, Option.bind_some, h.2.2 i (Nat.le_refl _), wr_10 t i rfl hi, Option.bind_some, zb_eq, nI_1]
      refine ⟨_, rfl, h.1.i (by simp), fun j hj => ?_, fun j hj => by rw [zs_i_o _ _ _ _ _ (by omega)]; exact h.2.2 j (by omega)⟩
      by_cases e : j = i
      · subst e; rw [zs_i_v]
      · rw [zs_i_o _ _ _ _ _ e]; exact h.2.1 j (by omega)) 7 0 zFU t8 (by decide) (by decide) ⟨zk_k.rf, fun j hj => by omega, fun _ _ => rfl⟩
  have g1' : f_X5_copyFrom_3_12_129 zFU 0 t8 = f_X5_copyFrom_3_12_129 (q' + 1) (nI 7) t := g1
  refine ⟨t, ?_, ks.tr (g2.mono (by decide)), ⟨fun j hj => ?_, fun j hj => ⟨?_, ?_, ?_, ?_, ?_⟩, fun j hj => ?_, fun j hj => ?_⟩⟩
  · rw [ef, g1', f_X5_copyFrom_3_12_129, if_pos (nI_le (Nat.le_refl _) (by decide))]
  · have hS : t7.1 12 = s.1 12 := by rw [(k7 12 (by decide)).1, (k6 12 (by decide)).1, (k5 12 (by decide)).1, (k4 12 (by decide)).1, (k3 12 (by decide)).1, (k2 12 (by decide)).1, (k1 12 (by decide)).1]
    have hD : t7.1 3 = t1.1 3 := by rw [(k7 3 (by decide)).1, (k6 3 (by decide)).1, (k5 3 (by decide)).1, (k4 3 (by decide)).1, (k3 3 (by decide)).1, (k2 3 (by decide)).1]
    rw [(g2 3 (by decide)).1, e8, ← hS]
    rcases (by omega : j = 0 ∨ j = 1 ∨ j = 8 ∨ j = 9 ∨ j = 10 ∨ j = 11 ∨ j = 12) with rfl | rfl | rfl | rfl | rfl | rfl | rfl
    · rw [zs_i_o _ _ _ _ _ (by decide), zs_i_o _ _ _ _ _ (by decide), zs_i_o _ _ _ _ _ (by decide), zs_i_o _ _ _ _ _ (by decide), zs_i_o _ _ _ _ _ (by decide), hD, e1, zs_i_o _ _ _ _ _ (by decide), zs_i_v, hS]
    · rw [zs_i_o _ _ _ _ _ (by decide), zs_i_o _ _ _ _ _ (by decide), zs_i_o _ _ _ _ _ (by decide), zs_i_o _ _ _ _ _ (by decide), zs_i_o _ _ _ _ _ (by decide), hD, e1, zs_i_v, hS]
    · rw [zs_i_o _ _ _ _ _ (by decide), zs_i_o _ _ _ _ _ (by decide), zs_i_o _ _ _ _ _ (by decide), zs_i_o _ _ _ _ _ (by decide), zs_i_v]
    · rw [zs_i_o _ _ _ _ _ (by decide), zs_i_o _ _ _ _ _ (by decide), zs_i_o _ _ _ _ _ (by decide), zs_i_v]
    · rw [zs_i_o _ _ _ _ _ (by decide), zs_i_o _ _ _ _ _ (by decide), zs_i_v]
    · rw [zs_i_o _ _ _ _ _ (by decide), zs_i_v]
    · rw [zs_i_v]
  · show t.1 4 j = s.1 13 j
    rw [(g2 4 (by decide)).1, (k8 4 (by decide)).1, (k7 4 (by decide)).1, (k6 4 (by decide)).1, (k5 4 (by decide)).1, (k4 4 (by decide)).1, (k3 4 (by decide)).1, e2, zsc_i0 hj, (k1 13 (by decide)).1]
  · show t.1 5 j = s.1 14 j
    rw [(g2 5 (by decide)).1, (k8 5 (by decide)).1, (k7 5 (by decide)).1, (k6 5 (by decide)).1, (k5 5 (by decide)).1, (k4 5 (by decide)).1, e3, zsc_i0 hj, (k2 14 (by decide)).1, (k1 14 (by decide)).1]
  · show t.1 6 j = s.1 15 j
    rw [(g2 6 (by decide)).1, (k8 6 (by decide)).1, (k7 6 (by decide)).1, (k6 6 (by decide)).1, (k5 6 (by decide)).1, e4, zsc_i0 hj, (k3 15 (by decide)).1, (k2 15 (by decide)).1, (k1 15 (by decide)).1]
  · show t.1 7 j = s.1 16 j
    rw [(g2 7 (by decide)).1, (k8 7 (by decide)).1, (k7 7 (by decide)).1, (k6 7 (by decide)).1, e5, zsc_i0 hj, (k4 16 (by decide)).1, (k3 16 (by decide)).1, (k2 16 (by decide)).1, (k1 16 (by decide)).1]
  · show t.1 8 j = s.1 17 j
    rw [(g2 8 (by decide)).1, (k8 8 (by decide)).1, (k7 8 (by decide)).1, e6, zsc_i0 hj, (k5 17 (by decide)).1, (k4 17 (by decide)).1, (k3 17 (by decide)).1, (k2 17 (by decide)).1, (k1 17 (by decide)).1]
  · show t.1 9 j = s.1 18 j
    rw [(g2 9 (by decide)).1, (k8 9 (by decide)).1, e7, zsc_i0 hj, (k6 18 (by decide)).1, (k5 18 (by decide)).1, (k4 18 (by decide)).1, (k3 18 (by decide)).1, (k2 18 (by decide)).1, (k1 18 (by decide)).1]
  · show t.1 10 j = s.1 10 j + 1
    rw [g3 j hj, (k8 10 (by decide)).1, (k7 10 (by decide)).1, (k6 10 (by decide)).1, (k5 10 (by decide)).1, (k4 10 (by decide)).1, (k3 10 (by decide)).1, (k2 10 (by decide)).1, (k1 10 (by decide)).1]
theorem cp_3_21 (s : zS) : ∃ s', f_X5_copyFrom_3_21 s = some ((), s') ∧ zk_k [3, 4, 5, 6, 7, 8, 9, 10] s s' ∧ CPY 3 21 s s' := by
  obtain ⟨t1, e1⟩ : ∃ t, t = zs_i (zs_i s 3 0 (s.1 21 0)) 3 1 (s.1 21 1) := ⟨_, rfl⟩
  obtain ⟨t2, e2⟩ : ∃ t, t = zs_c t1 22 0 4 0 7 := ⟨_, rfl⟩
  obtain ⟨t3, e3⟩ : ∃ t, t = zs_c t2 23 0 5 0 7 := ⟨_, rfl⟩
  obtain ⟨t4, e4⟩ : ∃ t, t = zs_c t3 24 0 6 0 7 := ⟨_, rfl⟩
  obtain ⟨t5, e5⟩ : ∃ t, t = zs_c t4 25 0 7 0 7 := ⟨_, rfl⟩
  obtain ⟨t6, e6⟩ : ∃ t, t = zs_c t5 26 0 8 0 7 := ⟨_, rfl⟩
  obtain ⟨t7, e7⟩ : ∃ t, t = zs_c t6 27 0 9 0 900 := ⟨_, rfl⟩
  obtain ⟨t8, e8⟩ : ∃ t, t = zs_i (zs_i (zs_i (zs_i (zs_i t7 3 8 (t7.1 21 8)) 3 9 (t7.1 21 9)) 3 10 (t7.1 21 10)) 3 11 (t7.1 21 11)) 3 12 (t7.1 21 12) := ⟨_, rfl⟩
  have hne : (21 : Nat) ≠ 3 := by decide
  have ef : f_X5_copyFrom_3_21 s = f_X5_copyFrom_3_21_129 zFU 0 t8 := by
    rw [f_X5_copyFrom_3_21, zb_eq, zb_eq, zs_i_n _ _ _ _ _ hne, ← e1, cpp t1 zd_22 zd_4 zn_22 zn_4, zbd_some, ← e2, cpp t2 zd_23 zd_5 zn_23 zn_5, zbd_some, ← e3, cpp t3 zd_24 zd_6 zn_24 zn_6, zbd_some, ← e4, cpp t4 zd_25 zd_7 zn_25 zn_7, zbd_some, ← e5, cpp t5 zd_26 zd_8 zn_26 zn_8, zbd_some, ← e6, wc_ok (x := (0 : Int32)) (y := (0 : Int32)) (sp := 0) (dp := 0) (m := 900) zd_27 zd_9 zn_27 zn_9 rfl rfl rfl (by decide) (by decide) (by decide) (by decide) (by decide), Option.bind_some, ← e7, zb_eq, zb_eq, zb_eq, zb_eq, zb_eq]
    simp only [zs_i_n _ _ _ _ _ hne]
    rw [← e8]
  have k1 : zk_k [3] s t1 := by rw [e1]; exact (zk_k.rf.i (by simp)).i (by simp)
  have k2 : zk_k [4] t1 t2 := by rw [e2]; exact zsc_k (by simp)
  have k3 : zk_k [5] t2 t3 := by rw [e3]; exact zsc_k (by simp)
  have k4 : zk_k [6] t3 t4 := by rw [e4]; exact zsc_k (by simp)
  have k5 : zk_k [7] t4 t5 := by rw [e5]; exact zsc_k (by simp)
  have k6 : zk_k [8] t5 t6 := by rw [e6]; exact zsc_k (by simp)
  have k7 : zk_k [9] t6 t7 := by rw [e7]; exact zsc_k (by simp)
  have k8 : zk_k [3] t7 t8 := by rw [e8]; exact ((((zk_k.rf.i (by simp)).i (by simp)).i (by simp)).i (by simp)).i (by simp)
  have ks : zk_k [3, 4, 5, 6, 7, 8, 9, 10] s t8 := ((((((((k1.mono (by decide)).tr (k2.mono (by decide))).tr (k3.mono (by decide))).tr (k4.mono (by decide))).tr (k5.mono (by decide))).tr (k6.mono (by decide))).tr (k7.mono (by decide))).tr (k8.mono (by decide)))
  obtain ⟨q', t, g1, g2, g3, g4⟩ := zlp (fun q i t => f_X5_copyFrom_3_21_129 q (nI i) t) 7 (fun i t => zk_k [10] t8 t ∧ (∀ j, j < i → t.1 10 j = t8.1 10 j + 1) ∧ ∀ j, i ≤ j → t.1 10 j = t8.1 10 j)
    (fun q i t hi h => by
      show ∃ a', f_X5_copyFrom_3_21_129 (q + 1) (nI i) t = f_X5_copyFrom_3_21_129 q (nI (i + 1)) a' ∧ _
      rw [f_X5_copyFrom_3_21_129, if_neg (nI_ge hi (by omega)), rd_10 t i rfl hi, Option.bind_some, h.2.2 i (Nat.le_refl _), wr_10 t i rfl hi, Option.bind_some, zb_eq, nI_1]
      refine ⟨_, rfl, h.1.i (by simp), fun j hj => ?_, fun j hj => by rw [zs_i_o _ _ _ _ _ (by omega)]; exact h.2.2 j (by omega)⟩
      by_cases e : j = i
      · subst e; rw [zs_i_v]
      · rw [zs_i_o _ _ _ _ _ e]; exact h.2.1 j (by omega)) 7 0 zFU t8 (by decide) (by decide) ⟨zk_k.rf, fun j hj => by omega, fun _ _ => rfl⟩
  have g1' : f_X5_copyFrom_3_21_129 zFU 0 t8 = f_X5_copyFrom_3_21_129 (q' + 1) (nI 7) t := g1
  refine ⟨t, ?_, ks.tr (g2.mono (by decide)), ⟨fun j hj => ?_, fun j hj => ⟨?_, ?_, ?_, ?_, ?_⟩, fun j hj => ?_, fun j hj => ?_⟩⟩
  · rw [ef, g1', f_X5_copyFrom_3_21_129, if_pos (nI_le (Nat.le_refl _) (by decide))]
  · have hS : t7.1 21 = s.1 21 := by rw [(k7 21 (by decide)).1, (k6 21 (by decide)).1, (k5 21 (by decide)).1, (k4 21 (by decide)).1, (k3 21 (by decide)).1, (k2 21 (by decide)).1, (k1 21 (by decide)).1]
    have hD : t7.1 3 = t1.1 3 := by rw [(k7 3 (by decide)).1, (k6 3 (by decide)).1, (k5 3 (by decide)).1, (k4 3 (by decide)).1, (k3 3 (by decide)).1, (k2 3 (by decide)).1]
    rw [(g2 3 (by decide)).1, e8, ← hS]
    rcases (by omega : j = 0 ∨ j = 1 ∨ j = 8 ∨ j = 9 ∨ j = 10 ∨ j = 11 ∨ j = 12) with rfl | rfl | rfl | rfl | rfl | rfl | rfl
    · rw [zs_i_o _ _ _ _ _ (by decide), zs_i_o _ _ _ _ _ (by decide), zs_i_o _ _ _ _ _ (by decide), zs_i_o _ _ _ _ _ (by decide), zs_i_o _ _ _ _ _ (by decide), hD, e1, zs_i_o _ _ _ _ _ (by decide), zs_i_v, hS]
    · rw [zs_i_o _ _ _ _ _ (by decide), zs_i_o _ _ _ _ _ (by decide), zs_i_o _ _ _ _ _ (by decide), zs_i_o _ _ _ _ _ (by decide), zs_i_o _ _ _ _ _ (by decide), hD, e1, zs_i_v, hS]
    · rw [zs_i_o _ _ _ _ _ (by decide), zs_i_o _ _ _ _ _ (by decide), zs_i_o _ _ _ _ _ (by decide), zs_i_o _ _ _ _ _ (by decide), zs_i_v]
    · rw [zs_i_o _ _ _ _ _ (by decide), zs_i_o _ _ _ _ _ (by decide), zs_i_o _ _ _ _ _ (by decide), zs_i_v]
    · rw [zs_i_o _ _ _ _ _ (by decide), zs_i_o _ _ _ _ _ (by decide), zs_i_v]
    · rw [zs_i_o _ _ _ _ _ (by decide), zs_i_v]
    · rw [zs_i_v]
  · show t.1 4 j = s.1 22 j
    rw [(g2 4 (by decide)).1, (k8 4 (by decide)).1, (k7 4 (by decide)).1, (k6 4 (by decide)).1, (k5 4 (by decide)).1, (k4 4 (by decide)).1, (k3 4 (by decide)).1, e2, zsc_i0 hj, (k1 22 (by decide)).1]
  · show t.1 5 j = s.1 23 j
    rw [(g2 5 (by decide)).1, (k8 5 (by decide)).1, (k7 5 (by decide)).1, (k6 5 (by decide)).1, (k5 5 (by decide)).1, (k4 5 (by decide)).1, e3, zsc_i0 hj, (k2 23 (by decide)).1, (k1 23 (by decide)).1]
  · show t.1 6 j = s.1 24 j
    rw [(g2 6 (by decide)).1, (k8 6 (by decide)).1, (k7 6 (by decide)).1, (k6 6 (by decide)).1, (k5 6 (by decide)).1, e4, zsc_i0 hj, (k3 24 (by decide)).1, (k2 24 (by decide)).1, (k1 24 (by decide)).1]
  · show t.1 7 j = s.1 25 j
    rw [(g2 7 (by decide)).1, (k8 7 (by decide)).1, (k7 7 (by decide)).1, (k6 7 (by decide)).1, e5, zsc_i0 hj, (k4 25 (by decide)).1, (k3 25 (by decide)).1, (k2 25 (by decide)).1, (k1 25 (by decide)).1]
  · show t.1 8 j = s.1 26 j
    rw [(g2 8 (by decide)).1, (k8 8 (by decide)).1, (k7 8 (by decide)).1, e6, zsc_i0 hj, (k5 26 (by decide)).1, (k4 26 (by decide)).1, (k3 26 (by decide)).1, (k2 26 (by decide)).1, (k1 26 (by decide)).1]
  · show t.1 9 j = s.1 27 j
    rw [(g2 9 (by decide)).1, (k8 9 (by decide)).1, e7, zsc_i0 hj, (k6 27 (by decide)).1, (k5 27 (by decide)).1, (k4 27 (by decide)).1, (k3 27 (by decide)).1, (k2 27 (by decide)).1, (k1 27 (by decide)).1]
  · show t.1 10 j = s.1 10 j + 1
    rw [g3 j hj, (k8 10 (by decide)).1, (k7 10 (by decide)).1, (k6 10 (by decide)).1, (k5 10 (by decide)).1, (k4 10 (by decide)).1, (k3 10 (by decide)).1, (k2 10 (by decide)).1, (k1 10 (by decide)).1]
theorem cp_3_31 (s : zS) : ∃ s', f_X5_copyFrom_3_31 s = some ((), s') ∧ zk_k [3, 4, 5, 6, 7, 8, 9, 10] s s' ∧ CPY 3 31 s s' := by
  obtain ⟨t1, e1⟩ : ∃ t, t = zs_i (zs_i s 3 0 (s.1 31 0)) 3 1 (s.1 31 1) := ⟨_, rfl⟩
  obtain ⟨t2, e2⟩ : ∃ t, t = zs_c t1 32 0 4 0 7 := ⟨_, rfl⟩
  obtain ⟨t3, e3⟩ : ∃ t, t = zs_c t2 33 0 5 0 7 := ⟨_, rfl⟩
  obtain ⟨t4, e4⟩ : ∃ t, t = zs_c t3 34 0 6 0 7 := ⟨_, rfl⟩
  obtain ⟨t5, e5⟩ : ∃ t, t = zs_c t4 35 0 7 0 7 := ⟨_, rfl⟩
  obtain ⟨t6, e6⟩ : ∃ t, t = zs_c t5 36 0 8 0 7 := ⟨_, rfl⟩
  obtain ⟨t7, e7⟩ : ∃ t, t = zs_c t6 37 0 9 0 900 := ⟨_, rfl⟩
  obtain ⟨t8, e8⟩ : ∃ t, t = zs_i (zs_i (zs_i (zs_i (zs_i t7 3 8 (t7.1 31 8)) 3 9 (t7.1 31 9)) 3 10 (t7.1 31 10)) 3 11 (t7.1 31 11)) 3 12 (t7.1 31 12) := ⟨_, rfl⟩
  have hne : (31 : Nat) ≠ 3 := by decide
  have ef : f_X5_copyFrom_3_31 s = f_X5_copyFrom_3_31_129 zFU 0 t8 := by
    rw [f_X5_copyFrom_3_31, zb_eq, zb_eq, zs_i_n _ _ _ _ _ hne, ← e1, cpp t1 zd_32 zd_4 zn_32 zn_4, zbd_some, ← e2, cpp t2 zd_33 zd_5 zn_33 zn_5, zbd_some, ← e3, cpp t3 zd_34 zd_6 zn_34 zn_6, zbd_some, ← e4, cpp t4 zd_35 zd_7 zn_35 zn_7, zbd_some, ← e5, cpp t5 zd_36 zd_8 zn_36 zn_8, zbd_some, ← e6, wc_ok (x := (0 : Int32)) (y := (0 : Int32)) (sp := 0) (dp := 0) (m := 900) zd_37 zd_9 zn_37 zn_9 rfl rfl rfl (by decide) (by decide) (by decide) (by decide) (by decide), Option.bind_some, ← e7, zb_eq, zb_eq, zb_eq, zb_eq, zb_eq]
    simp only [zs_i_n _ _ _ _ _ hne]
    rw [← e8]
  have k1 : zk_k [3] s t1 := by rw [e1]; exact (zk_k.rf.i (by simp)).i (by simp)
  have k2 : zk_k [4] t1 t2 := by rw [e2]; exact zsc_k (by simp)
  have k3 : zk_k [5] t2 t3 := by rw [e3]; exact zsc_k (by simp)
  have k4 : zk_k [6] t3 t4 := by rw [e4]; exact zsc_k (by simp)
  have k5 : zk_k [7] t4 t5 := by rw [e5]; exact zsc_k (by simp)
  have k6 : zk_k [8] t5 t6 := by rw [e6]; exact zsc_k (by simp)
  have k7 : zk_k [9] t6 t7 := by rw [e7]; exact zsc_k (by simp)
  have k8 : zk_k [3] t7 t8 := by rw [e8]; exact ((((zk_k.rf.i (by simp)).i (by simp)).i (by simp)).i (by simp)).i (by simp)
  have ks : zk_k [3, 4, 5, 6, 7, 8, 9, 10] s t8 := ((((((((k1.mono (by decide)).tr (k2.mono (by decide))).tr (k3.mono (by decide))).tr (k4.mono (by decide))).tr (k5.mono (by decide))).tr (k6.mono (by decide))).tr (k7.mono (by decide))).tr (k8.mono (by decide)))
  obtain ⟨q', t, g1, g2, g3, g4⟩ := zlp (fun q i t => f_X5_copyFrom_3_31_129 q (nI i) t) 7 (fun i t => zk_k [10] t8 t ∧ (∀ j, j < i → t.1 10 j = t8.1 10 j + 1) ∧ ∀ j, i ≤ j → t.1 10 j = t8.1 10 j)
    (fun q i t hi h => by
      show ∃ a', f_X5_copyFrom_3_31_129 (q + 1) (nI i) t = f_X5_copyFrom_3_31_129 q (nI (i + 1)) a' ∧ _
      rw [f_X5_copyFrom_3_31_129, if_neg (nI_ge hi (by omega)), rd_10 t i rfl hi, Option.bind_some, h.2.2 i (Nat.le_refl _), wr_10 t i rfl hi, Option.bind_some, zb_eq, nI_1]
      refine ⟨_, rfl, h.1.i (by simp), fun j hj => ?_, fun j hj => by rw [zs_i_o _ _ _ _ _ (by omega)]; exact h.2.2 j (by omega)⟩
      by_cases e : j = i
      · subst e; rw [zs_i_v]
      · rw [zs_i_o _ _ _ _ _ e]; exact h.2.1 j (by omega)) 7 0 zFU t8 (by decide) (by decide) ⟨zk_k.rf, fun j hj => by omega, fun _ _ => rfl⟩
  have g1' : f_X5_copyFrom_3_31_129 zFU 0 t8 = f_X5_copyFrom_3_31_129 (q' + 1) (nI 7) t := g1
  refine ⟨t, ?_, ks.tr (g2.mono (by decide)), ⟨fun j hj => ?_, fun j hj => ⟨?_, ?_, ?_, ?_, ?_⟩, fun j hj => ?_, fun j hj => ?_⟩⟩
  · rw [ef, g1', f_X5_copyFrom_3_31_129, if_pos (nI_le (Nat.le_refl _) (by decide))]
  · have hS : t7.1 31 = s.1 31 := by rw [(k7 31 (by decide)).1, (k6 31 (by decide)).1, (k5 31 (by decide)).1, (k4 31 (by decide)).1, (k3 31 (by decide)).1, (k2 31 (by decide)).1, (k1 31 (by decide)).1]
    have hD : t7.1 3 = t1.1 3 := by rw [(k7 3 (by decide)).1, (k6 3 (by decide)).1, (k5 3 (by decide)).1, (k4 3 (by decide)).1, (k3 3 (by decide)).1, (k2 3 (by decide)).1]
    rw [(g2 3 (by decide)).1, e8, ← hS]
    rcases (by omega : j = 0 ∨ j = 1 ∨ j = 8 ∨ j = 9 ∨ j = 10 ∨ j = 11 ∨ j = 12) with rfl | rfl | rfl | rfl | rfl | rfl | rfl
    · rw [zs_i_o _ _ _ _ _ (by decide), zs_i_o _ _ _ _ _ (by decide), zs_i_o _ _ _ _ _ (by decide), zs_i_o _ _ _ _ _ (by decide), zs_i_o _ _ _ _ _ (by decide), hD, e1, zs_i_o _ _ _ _ _ (by decide), zs_i_v, hS]
    · rw [zs_i_o _ _ _ _ _ (by decide), zs_i_o _ _ _ _ _ (by decide), zs_i_o _ _ _ _ _ (by decide), zs_i_o _ _ _ _ _ (by decide), zs_i_o _ _ _ _ _ (by decide), hD, e1, zs_i_v, hS]
    · rw [zs_i_o _ _ _ _ _ (by decide), zs_i_o _ _ _ _ _ (by decide), zs_i_o _ _ _ _ _ (by decide), zs_i_o _ _ _ _ _ (by decide), zs_i_v]
    · rw [zs_i_o _ _ _ _ _ (by decide), zs_i_o _ _ _ _ _ (by decide), zs_i_o _ _ _ _ _ (by decide), zs_i_v]
    · rw [zs_i_o _ _ _ _ _ (by decide), zs_i_o _ _ _ _ _ (by decide), zs_i_v]
    · rw [zs_i_o _ _ _ _ _ (by decide), zs_i_v]
    · rw [zs_i_v]
  · show t.1 4 j = s.1 32 j
    rw [(g2 4 (by decide)).1, (k8 4 (by decide)).1, (k7 4 (by decide)).1, (k6 4 (by decide)).1, (k5 4 (by decide)).1, (k4 4 (by decide)).1, (k3 4 (by decide)).1, e2, zsc_i0 hj, (k1 32 (by decide)).1]
  · show t.1 5 j = s.1 33 j
    rw [(g2 5 (by decide)).1, (k8 5 (by decide)).1, (k7 5 (by decide)).1, (k6 5 (by decide)).1, (k5 5 (by decide)).1, (k4 5 (by decide)).1, e3, zsc_i0 hj, (k2 33 (by decide)).1, (k1 33 (by decide)).1]
  · show t.1 6 j = s.1 34 j
    rw [(g2 6 (by decide)).1, (k8 6 (by decide)).1, (k7 6 (by decide)).1, (k6 6 (by decide)).1, (k5 6 (by decide)).1, e4, zsc_i0 hj, (k3 34 (by decide)).1, (k2 34 (by decide)).1, (k1 34 (by decide)).1]
  · show t.1 7 j = s.1 35 j
    rw [(g2 7 (by decide)).1, (k8 7 (by decide)).1, (k7 7 (by decide)).1, (k6 7 (by decide)).1, e5, zsc_i0 hj, (k4 35 (by decide)).1, (k3 35 (by decide)).1, (k2 35 (by decide)).1, (k1 35 (by decide)).1]
  · show t.1 8 j = s.1 36 j
    rw [(g2 8 (by decide)).1, (k8 8 (by decide)).1, (k7 8 (by decide)).1, e6, zsc_i0 hj, (k5 36 (by decide)).1, (k4 36 (by decide)).1, (k3 36 (by decide)).1, (k2 36 (by decide)).1, (k1 36 (by decide)).1]
  · show t.1 9 j = s.1 37 j
    rw [(g2 9 (by decide)).1, (k8 9 (by decide)).1, e7, zsc_i0 hj, (k6 37 (by decide)).1, (k5 37 (by decide)).1, (k4 37 (by decide)).1, (k3 37 (by decide)).1, (k2 37 (by decide)).1, (k1 37 (by decide)).1]
  · show t.1 10 j = s.1 10 j + 1
    rw [g3 j hj, (k8 10 (by decide)).1, (k7 10 (by decide)).1, (k6 10 (by decide)).1, (k5 10 (by decide)).1, (k4 10 (by decide)).1, (k3 10 (by decide)).1, (k2 10 (by decide)).1, (k1 10 (by decide)).1]
