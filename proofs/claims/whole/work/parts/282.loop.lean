section SOCLOOP
variable {b : Nat → Nat} {L N k k1 k2 m w kd j ln : Nat} {s t u : zS} {cs ds : List Nat} {X : DTY}
theorem r58 (n : Nat) (v3 : Int32) (s : zS) : f_X3_read_58 (n + 1) v3 s = if (nI 900) ≤ v3 then (f_X3_read_123 s) else if ¬ (s.1 30 1) = 0 then (f_X3_read_123 s) else (zr_i s 40 (s.1 30 5)).bind fun x2 => if x2 = (nI 1000) then (f_X3_read_123 s) else zbd (f_X3_readLine s) fun r3 s4 => if r3 = 0 then (f_X3_read_117 (f_X3_read_58 n) v3 s4) else zbd (f_X3_take (nI 1100) s4) fun r5 s6 => if r5 = 0 then (f_X3_read_117 (f_X3_read_58 n) v3 s6) else zb (zs_i s6 31 1 ((s6.1 31 1) + (1 : Int32))) fun s7 => f_X3_read_117 (f_X3_read_58 n) v3 s7 := rfl
theorem s70 (n : Nat) (s : zS) : f_X8_society_70 (n + 1) s = if ¬ (s.1 76 11) = 0 then (f_X8_society_97 s) else if (s.1 76 9) = (nI 24) then (f_X8_society_97 s) else zbd (f_X8_readLine s) fun _ s7 => zbd (f_X8_ends s7) fun _ s8 => f_X8_society_70 n s8 := rfl
theorem ends14 (s : zS) : f_X8_ends_14 s = some ((), zs_i s 80 0 (s.1 80 0 + 1)) := by
  rw [f_X8_ends_14, rd_80 s (x := 0) 0 rfl (by decide), Option.bind_some, wr_80 s (x := 0) 0 rfl (by decide), Option.bind_some]
theorem ends_dead (h : ¬ s.1 76 11 = 0) : f_X8_ends s = some ((), zs_i s 80 0 (s.1 80 0 + 1)) := by
  rw [f_X8_ends, dead_eats h, zbd_some, if_neg (fun z => z rfl), dead_fails h, zbd_some, ends14]
theorem r117_bad {n i : Nat} (hn : 1 ≤ n) (h1 : s.1 30 1 = nI kd) (h0 : 0 < kd) (h5 : kd < 5) : f_X3_read_117 (f_X3_read_58 n) (nI i) s = some (nI kd, s) := by
  obtain ⟨n, rfl⟩ : ∃ q, n = q + 1 := ⟨n - 1, by omega⟩
  rw [f_X3_read_117, zb_eq, r58]
  by_cases h : nI 900 ≤ nI i + 1
  · rw [if_pos h, f_X3_read_123, h1]
  · rw [if_neg h, h1, if_pos (show ¬ nI kd = 0 from ne_of_nI (b := 0) (by omega) (by omega) (by omega)), f_X3_read_123, h1]
theorem s70_dead {n : Nat} (hn : 1 ≤ n) (h : ¬ s.1 76 11 = 0) : f_X8_society_70 n s = f_X8_society_97 s := by
  obtain ⟨n, rfl⟩ : ∃ q, n = q + 1 := ⟨n - 1, by omega⟩
  rw [s70, if_pos h]
theorem RB2.i0 (h : RB2 s t b L kd j) {v : Int32} : RB2 s (zs_i t 80 0 v) b L kd j := ⟨by rw [zs_i_n _ _ _ _ _ (by decide)]; exact h.1, by rw [zs_i_n _ _ _ _ _ (by decide)]; exact h.2.1, h.2.2.i⟩
theorem DCx.l1 {l2 : Nat} (h : DCx s ln X) : DCx (zs_i s 31 1 (nI l2)) l2 X := by
  obtain ⟨h1, h2, h3, h4, h5⟩ := h
  refine ⟨by rw [zs_i_o _ _ _ _ _ (by decide)]; exact h1, zs_i_v _ _ _ _, fun f p hf hp => by rw [zs_i_n _ _ _ _ _ (by omega)]; exact h3 f p hf hp, h4, fun q hq => ?_⟩
  rw [zs_i_o _ _ _ _ _ (by omega), zs_i_o _ _ _ _ _ (by omega)]
  exact h5 q hq
theorem DR.l0 {l2 : Nat} (hX : DX X m) (h : DR s ln X) : DR (zs_i s 80 0 (nI l2)) l2 X := by
  obtain ⟨⟨h1, h2, h3, h4, h5, h6⟩, hz⟩ := h
  have hn := hX.1
  refine ⟨⟨by rw [zs_i_o _ _ _ _ _ (by decide)]; exact h1, zs_i_v _ _ _ _, by rw [zs_i_o _ _ _ _ _ (by decide)]; exact h3, fun f p hf hp => ?_, fun p hp => by rw [zs_i_o _ _ _ _ _ (by omega)]; exact h5 p hp, fun q hq => ⟨fun z => ?_, fun z => ?_⟩⟩, fun f p hf hp hp7 => ?_⟩
  · have := rbs_r (f := f) p hf (by omega)
    rw [zs_i_o _ _ _ _ _ (by omega)]; exact h4 f p hf hp
  · rw [zs_i_o _ _ _ _ _ (by omega)]; exact (h6 q hq).1 z
  · obtain ⟨a1, a2, a3, a4⟩ := (h6 q hq).2 z
    exact ⟨by rw [zs_i_o _ _ _ _ _ (by omega)]; exact a1, by rw [zs_i_o _ _ _ _ _ (by omega)]; exact a2, by rw [zs_i_o _ _ _ _ _ (by omega)]; exact a3, fun i hi => by rw [zs_i_o _ _ _ _ _ (by omega)]; exact a4 i hi⟩
  · have := rbs_r (f := f) p (by omega) hp7
    rw [zs_i_o _ _ _ _ _ (by omega)]; exact hz f p hf hp hp7
/-- a text: both refuse it alike, or both have the same draft -/
def SOB (F : zS → Option (Int32 × zS)) (G : zS → Option (Int32 × zS)) (PC PR : zS → Prop) (b : Nat → Nat) (L N : Nat) : Prop :=
  (∃ kd j, 0 < kd ∧ kd < 5 ∧ j ≤ N ∧ (∀ s, PC s → ∃ s', F s = some (nI kd, s') ∧ CB2 s s' b L kd j) ∧ (∀ s, PR s → ∃ s', G s = f_X8_society_97 s' ∧ RB2 s s' b L kd j)) ∨
  ∃ m2 l2 X2, m2 ≤ 900 ∧ DX X2 m2 ∧ (∀ s, PC s → ∃ s', F s = some (0, s') ∧ (s'.1 30 1 = 0 ∧ s'.1 30 2 = -1) ∧ DCx s' l2 X2 ∧ CF2 s s') ∧ (∀ s, PR s → ∃ s', G s = f_X8_society_97 s' ∧ s'.1 76 11 = 0 ∧ DR s' l2 X2 ∧ RF2 s s')
theorem SOB.pre {F F' : zS → Option (Int32 × zS)} {G G' : zS → Option (Int32 × zS)} {PC PR PC' PR' : zS → Prop} (hB : SOB F' G' PC' PR' b L N) (hC : ∀ s, PC s → ∃ s1, PC' s1 ∧ CF2 s s1 ∧ F s = F' s1) (hR : ∀ s, PR s → ∃ s1, PR' s1 ∧ RF2 s s1 ∧ G s = G' s1) : SOB F G PC PR b L N := by
  rcases hB with ⟨kd, j, b1, b2, b3, bC, bR⟩ | ⟨m2, l2, X2, o1, o3, oC, oR⟩
  · refine Or.inl ⟨kd, j, b1, b2, b3, fun s h1 => ?_, fun s h1 => ?_⟩
    · obtain ⟨s1, c2, c3, c4⟩ := hC s h1
      obtain ⟨s2, q1, q2⟩ := bC s1 c2
      exact ⟨s2, c4.trans q1, CB2.pre c3 q2⟩
    · obtain ⟨s1, c2, c3, c4⟩ := hR s h1
      obtain ⟨s2, q1, q2⟩ := bR s1 c2
      exact ⟨s2, c4.trans q1, RB2.pre c3 q2⟩
  · refine Or.inr ⟨m2, l2, X2, o1, o3, fun s h1 => ?_, fun s h1 => ?_⟩
    · obtain ⟨s1, c2, c3, c4⟩ := hC s h1
      obtain ⟨s2, q1, q2, q3, q4⟩ := oC s1 c2
      exact ⟨s2, c4.trans q1, q2, q3, c3.tr q4⟩
    · obtain ⟨s1, c2, c3, c4⟩ := hR s h1
      obtain ⟨s2, q1, q2, q3, q4⟩ := oR s1 c2
      exact ⟨s2, c4.trans q1, q2, q3, c3.tr q4⟩
theorem soc_loop (hTN : TN b L N) : ∀ c k, k ≤ N → N - k < c → ∀ m ln X i n7 n8, DX X m → c ≤ n7 → c ≤ n8 → i + (N - k) < 900 → SOB (f_X3_read_58 n7 (nI i)) (f_X8_society_70 n8) (fun s => CT s b L N k m ∧ DCx s ln X) (fun s => RT s b L N k m ∧ DR s ln X) b L N := by
  have hN := hTN.2.1
  have hL := hTN.1
  intro c
  induction c with
  | zero => intro k _ h; omega
  | succ c ih =>
    intro k hk hlt m ln X i n7 n8 hX h7 h8 hi
    obtain ⟨n7, rfl⟩ : ∃ q, n7 = q + 1 := ⟨n7 - 1, by omega⟩
    obtain ⟨n8, rfl⟩ : ∃ q, n8 = q + 1 := ⟨n8 - 1, by omega⟩
    have e24 : nI (TC b L k) = nI 1000 ↔ TK b L k = 24 := tcE hTN hk (by decide) (by decide) rfl
    have hx := TK_lt hTN hk
    by_cases h24 : TK b L k = 24
    · by_cases hm : m ≤ 900
      · refine Or.inr ⟨m, ln, X, hm, hX, fun s hs => ⟨s, ?_, hs.1.2.2.2.2.1, hs.2, CF2.rf⟩, fun s hs => ⟨s, ?_, hs.1.2.2.2.2.2.2.2.1, hs.2, RF2.rf⟩⟩
        · rw [r58, if_neg (nI_ge (by omega) (by decide)), if_neg (fun z => z hs.1.2.2.2.2.1.1), tok7 hs.1, Option.bind_some, if_pos (e24.mpr h24), f_X3_read_123, hs.1.2.2.2.2.1.1]
        · rw [s70, if_neg (fun z => z hs.1.2.2.2.2.2.2.2.1), if_pos (by rw [hs.1.2.2.2.2.2.1, h24])]
      · exact Or.inl ⟨1, 0, by decide, by decide, Nat.zero_le _, fun s hs => absurd hs.1.2.2.2.2.2.2 (by omega), fun s hs => absurd hs.1.2.2.2.2.2.2.2.2.2 (by omega)⟩
    · have hkN := TK_N hTN hk h24
      have cC : ∀ s, CT s b L N k m → f_X3_read_58 (n7 + 1) (nI i) s = zbd (f_X3_readLine s) fun r3 s4 => if r3 = 0 then (f_X3_read_117 (f_X3_read_58 n7) (nI i) s4) else zbd (f_X3_take (nI 1100) s4) fun r5 s6 => if r5 = 0 then (f_X3_read_117 (f_X3_read_58 n7) (nI i) s6) else zb (zs_i s6 31 1 ((s6.1 31 1) + (1 : Int32))) fun s7 => f_X3_read_117 (f_X3_read_58 n7) (nI i) s7 := fun s hC => by
        rw [r58, if_neg (nI_ge (by omega) (by decide)), if_neg (fun z => z hC.2.2.2.2.1.1), tok7 hC, Option.bind_some, if_neg (fun z => h24 (e24.mp z))]
      have cR : ∀ s, RT s b L N k m → f_X8_society_70 (n8 + 1) s = zbd (f_X8_readLine s) fun _ s7 => zbd (f_X8_ends s7) fun _ s8 => f_X8_society_70 n8 s8 := fun s hR => by
        rw [s70, if_neg (fun z => z hR.2.2.2.2.2.2.2.1), if_neg (by rw [hR.2.2.2.2.2.1]; exact ne_of_nI h24 (by omega) (by omega))]
      rcases line_both (ln := ln) hTN hk hX with ⟨kd, j, b1, b2, b3, bC, bR⟩ | ⟨k2, m2, X2, o1, o2, o3, oC, oR⟩
      · refine Or.inl ⟨kd, j, b1, b2, b3, fun s hs => ?_, fun s hs => ?_⟩
        · obtain ⟨s2, q1, q2⟩ := bC s hs.1 hs.2
          refine ⟨s2, ?_, q2⟩
          rw [cC s hs.1, q1, zbd_some, if_pos rfl, r117_bad (by omega) q2.1 b1 b2]
        · obtain ⟨s2, q1, q2⟩ := bR s hs.1 hs.2
          have hdd := q2.dead b1 b2
          refine ⟨zs_i s2 80 0 (s2.1 80 0 + 1), ?_, q2.i0⟩
          rw [cR s hs.1, q1, zbd_some, ends_dead hdd, zbd_some, s70_dead (by omega) (by rw [zs_i_n _ _ _ _ _ (by decide)]; exact hdd)]
      · by_cases h30 : TK b L k2 = 30
        · have hk2 := TK_N hTN o2 (by omega)
          refine SOB.pre (ih (k2 + 1) (by omega) (by omega) m2 (ln + 1) X2 (i + 1) n7 n8 o3 (by omega) (by omega) (by omega)) (fun s hs => ?_) (fun s hs => ?_)
          · obtain ⟨s1, g1, g2, g3, g4⟩ := oC s hs.1 hs.2
            obtain ⟨s2, t1, t2⟩ := (takeS g2 (x := 30) (by decide) (by decide) (by decide)).1 h30
            have hD2 := g3.st o3 t2
            have hC2 : CT s2 b L N (k2 + 1) m2 := t2.1
            refine ⟨zs_i s2 31 1 (nI (ln + 1)), ⟨CT.i31 (by decide) hC2, hD2.l1⟩, (g4.tr t2.2.2.2.c2).i (by decide), ?_⟩
            rw [cC s hs.1, g1, zbd_some, if_neg (by decide), show nI 1100 = nI (lxK 30 0) from rfl, t1, zbd_some, if_neg (by decide), zb_eq, hD2.2.1, nI_1, f_X3_read_117, zb_eq, nI_1]
          · obtain ⟨s1, g1, g2, g3, g4⟩ := oR s hs.1 hs.2
            obtain ⟨s2, t1, t2⟩ := (eatsS g2 (x := 30) (by decide) (by decide)).1 h30
            have hD2 := g3.st o3 t2
            have hR2 : RT s2 b L N (k2 + 1) m2 := t2.1
            refine ⟨zs_i s2 80 0 (nI (ln + 1)), ⟨RT.i80 (by decide) hR2, hD2.l0 o3⟩, (g4.tr t2.2.2.2.r2).i, ?_⟩
            rw [cR s hs.1, g1, zbd_some, f_X8_ends, t1, zbd_some, if_pos (by decide), ends14, zbd_some, hD2.1.2.1, nI_1]
        · have hf := fkd_r (b := b) (L := L) (k := k2) (v := 2) (by decide) (by decide)
          refine Or.inl ⟨fkd b L k2 2, k2, hf.1, hf.2, o2, fun s hs => ?_, fun s hs => ?_⟩
          · obtain ⟨s1, g1, g2, g3, g4⟩ := oC s hs.1 hs.2
            obtain ⟨s2, t1, t2⟩ := (takeS g2 (x := 30) (by decide) (by decide) (by decide)).2 h30
            refine ⟨s2, ?_, CB2.pre g4 t2.c2⟩
            rw [cC s hs.1, g1, zbd_some, if_neg (by decide), show nI 1100 = nI (lxK 30 0) from rfl, t1, zbd_some, if_pos rfl, r117_bad (by omega) t2.1 hf.1 hf.2]
          · obtain ⟨s1, g1, g2, g3, g4⟩ := oR s hs.1 hs.2
            have t1 := (eatsS g2 (x := 30) (by decide) (by decide)).2 h30
            obtain ⟨s2, t2, t3⟩ := failsS g2 2
            have hdd := t3.dead hf.1 hf.2
            refine ⟨zs_i s2 80 0 (s2.1 80 0 + 1), ?_, (RB2.pre g4 t3.r2).i0⟩
            rw [cR s hs.1, g1, zbd_some, f_X8_ends, t1, zbd_some, if_neg (fun z => z rfl), t2, zbd_some, ends14, zbd_some, s70_dead (by omega) (by rw [zs_i_n _ _ _ _ _ (by decide)]; exact hdd)]
/-- 'society' and its lines -/
def X00 : DTY := (0, fun _ _ => 0, fun _ => -1, fun _ => 0, fun _ => [], fun _ => false)
theorem X00_X : DX X00 0 := ⟨by decide, fun p hp => absurd hp (Nat.not_lt_zero _), fun p hp => absurd hp (Nat.not_lt_zero _), fun p _ _ => rfl, fun w _ h => absurd (show false = true from h) (by decide)⟩
def rd7 (s : zS) : Option (Int32 × zS) := zbd (f_X3_take (nI 1200) s) fun r13 s14 => if r13 = 0 then (f_X3_read_123 s14) else zbd (f_X3_take (nI 1100) s14) fun r15 s16 => if r15 = 0 then (f_X3_read_123 s16) else zb (zs_i s16 31 1 (1 : Int32)) fun s17 => f_X3_read_58 zFU (0 : Int32) s17
def rd8 (s : zS) : Option (Int32 × zS) := zbd (f_X8_eats (0 : Int32) s) fun r19 s20 => if ¬ r19 = 0 then (f_X8_society_66 s20) else zbd (f_X8_fails (nI 2) s20) fun _ s21 => f_X8_society_66 s21
theorem s66_dead (h : ¬ s.1 76 11 = 0) : f_X8_society_66 s = f_X8_society_97 (zs_i s 80 0 (s.1 80 0 + 1)) := by
  rw [f_X8_society_66, ends_dead h, zbd_some, s70_dead (by decide) (by rw [zs_i_n _ _ _ _ _ (by decide)]; exact h)]
theorem soc_both (hTN : TN b L N) : SOB rd7 rd8 (fun s => CT s b L N 0 0 ∧ DCx s 0 X00) (fun s => RT s b L N 0 0 ∧ DR s 0 X00) b L N := by
  have hN := hTN.2.1
  have hL := hTN.1
  by_cases h0 : TK b L 0 = 0
  · have hkN := TK_N hTN (Nat.zero_le _) (by omega)
    by_cases h30 : TK b L 1 = 30
    · have hkN1 := TK_N hTN (show 1 ≤ N by omega) (by omega)
      refine SOB.pre (soc_loop hTN 1000 2 (by omega) (by omega) 0 1 X00 0 zFU zFU X00_X (by decide) (by decide) (by omega)) (fun s hs => ?_) (fun s hs => ?_)
      · obtain ⟨s1, g1, g2⟩ := (takeS hs.1 (x := 0) (by decide) (by decide) (by decide)).1 h0
        have hC1 : CT s1 b L N 1 0 := g2.1
        obtain ⟨s2, t1, t2⟩ := (takeS hC1 (x := 30) (by decide) (by decide) (by decide)).1 h30
        have hC2 : CT s2 b L N 2 0 := t2.1
        have hD2 := (hs.2.st X00_X g2).st X00_X t2
        refine ⟨zs_i s2 31 1 (nI 1), ⟨CT.i31 (by decide) hC2, hD2.l1⟩, (g2.2.2.2.c2.tr t2.2.2.2.c2).i (by decide), ?_⟩
        rw [rd7, show nI 1200 = nI (lxK 0 0) from rfl, g1, zbd_some, if_neg (by decide), show nI 1100 = nI (lxK 30 0) from rfl, t1, zbd_some, if_neg (by decide), zb_eq]; rfl
      · obtain ⟨s1, g1, g2⟩ := (eatsS hs.1 (x := 0) (by decide) (by decide)).1 h0
        have hR1 : RT s1 b L N 1 0 := g2.1
        obtain ⟨s2, t1, t2⟩ := (eatsS hR1 (x := 30) (by decide) (by decide)).1 h30
        have hR2 : RT s2 b L N 2 0 := t2.1
        have hD2 := (hs.2.st X00_X g2).st X00_X t2
        refine ⟨zs_i s2 80 0 (nI 1), ⟨RT.i80 (by decide) hR2, hD2.l0 X00_X⟩, (g2.2.2.2.r2.tr t2.2.2.2.r2).i, ?_⟩
        rw [rd8, show (0 : Int32) = nI 0 from rfl, g1, zbd_some, if_pos (by decide), f_X8_society_66, f_X8_ends, t1, zbd_some, if_pos (by decide), ends14, zbd_some, hD2.1.2.1, nI_1]
    · have hf := fkd_r (b := b) (L := L) (k := 1) (v := 2) (by decide) (by decide)
      refine Or.inl ⟨fkd b L 1 2, 1, hf.1, hf.2, by omega, fun s hs => ?_, fun s hs => ?_⟩
      · obtain ⟨s1, g1, g2⟩ := (takeS hs.1 (x := 0) (by decide) (by decide) (by decide)).1 h0
        have hC1 : CT s1 b L N 1 0 := g2.1
        obtain ⟨s2, t1, t2⟩ := (takeS hC1 (x := 30) (by decide) (by decide) (by decide)).2 h30
        refine ⟨s2, ?_, CB2.pre g2.2.2.2.c2 t2.c2⟩
        rw [rd7, show nI 1200 = nI (lxK 0 0) from rfl, g1, zbd_some, if_neg (by decide), show nI 1100 = nI (lxK 30 0) from rfl, t1, zbd_some, if_pos rfl, f_X3_read_123, t2.1]
      · obtain ⟨s1, g1, g2⟩ := (eatsS hs.1 (x := 0) (by decide) (by decide)).1 h0
        have hR1 : RT s1 b L N 1 0 := g2.1
        have t1 := (eatsS hR1 (x := 30) (by decide) (by decide)).2 h30
        obtain ⟨s2, t2, t3⟩ := failsS hR1 2
        have hdd := t3.dead hf.1 hf.2
        refine ⟨zs_i s2 80 0 (s2.1 80 0 + 1), ?_, (RB2.pre g2.2.2.2.r2 t3.r2).i0⟩
        rw [rd8, show (0 : Int32) = nI 0 from rfl, g1, zbd_some, if_pos (by decide), f_X8_society_66, f_X8_ends, t1, zbd_some, if_neg (fun z => z rfl), t2, zbd_some, ends14, zbd_some, s70_dead (by decide) (by rw [zs_i_n _ _ _ _ _ (by decide)]; exact hdd)]
  · have hf := fkd_r (b := b) (L := L) (k := 0) (v := 2) (by decide) (by decide)
    refine Or.inl ⟨fkd b L 0 2, 0, hf.1, hf.2, by omega, fun s hs => ?_, fun s hs => ?_⟩
    · obtain ⟨s1, g1, g2⟩ := (takeS hs.1 (x := 0) (by decide) (by decide) (by decide)).2 h0
      refine ⟨s1, ?_, g2.c2⟩
      rw [rd7, show nI 1200 = nI (lxK 0 0) from rfl, g1, zbd_some, if_pos rfl, f_X3_read_123, g2.1]
    · have g1 := (eatsS hs.1 (x := 0) (by decide) (by decide)).2 h0
      obtain ⟨s2, t2, t3⟩ := failsS hs.1 2
      have hdd := t3.dead hf.1 hf.2
      refine ⟨zs_i s2 80 0 (s2.1 80 0 + 1), ?_, t3.r2.i0⟩
      have g1' : f_X8_eats 0 s = some (0, s) := g1
      rw [rd8, g1', zbd_some, if_neg (fun z => z rfl), t2, zbd_some, s66_dead hdd]
end SOCLOOP
