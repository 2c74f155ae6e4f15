section SIGNLINE
variable {b : Nat → Nat} {L N k k1 k2 m w kd j ln : Nat} {s t u : zS} {cs ds : List Nat} {X : DTY} {a : Nat → Nat}
/-- a row of a sign, read from right to left -/
def tbr (v : Nat) : Nat := if v = 1 then 4 else if v = 3 then 6 else if v = 4 then 1 else if v = 6 then 3 else v
theorem tbr_t : ∀ v, v < 8 → zr_t 0 (nI v) = some (nI (tbr v)) := by decide +kernel
theorem tbr_7 : ∀ i, i < 3 → ∀ v, v < 8 → zo_shl (nI (tbr v)) (nI 3 * nI i) = nI (tbr v <<< (3 * i)) ∧ tbr v <<< (3 * i) < 512 := by decide +kernel
def rb8 (v i c : Int32) : Int32 := zo_shl ((zo_shr v (nI 2 - c)) &&& (1 : Int32)) ((nI 3 * i) + c)
theorem tbr_8 : ∀ i, i < 3 → ∀ v, v < 8 → (rb8 (nI v) (nI i) 0 ||| rb8 (nI v) (nI i) 1) ||| rb8 (nI v) (nI i) (1 + 1) = nI (tbr v <<< (3 * i)) := by decide +kernel
theorem p4 (n : Nat) (v1 v2 v3 : Int32) (s : zS) : f_X3_readPerson_4 (n + 1) v1 v2 v3 s = if (nI 3) ≤ v3 then (if v1 < (nI 7) then ((zw_i s 32 v1 v2).bind fun s1 => (zw_i s1 33 v1 (0 : Int32)).bind fun s2 => (zw_i s2 34 v1 (0 : Int32)).bind fun s3 => (zw_i s3 35 v1 (1 : Int32)).bind fun s4 => zb (zs_i s4 31 0 (v1 + (1 : Int32))) fun s5 => zbd (f_X3_readFlags v1 s5) fun r6 s7 => if r6 = 0 ∨ r6 = 1 then some (r6, s7) else none) else some ((0 : Int32), s)) else zbd (f_X3_takeNumber (nI 7) s) fun r8 s9 => if r8 < 0 then (f_X3_readPerson_29 s9) else if r8 ≤ (nI 7) then ((zr_t 0 r8).bind fun x10 => zb (v2 ||| (zo_shl x10 ((nI 3) * v3))) fun x11 => zb (v3 + (1 : Int32)) fun x12 => f_X3_readPerson_4 n v1 x11 x12 s9) else f_X3_readPerson_29 s9 := rfl
theorem p48 (kb : Int32 → Int32 → zS → Option (Unit × zS)) (n : Nat) (v1 v2 v3 v4 : Int32) (s : zS) : f_X8_readPerson_48 kb (n + 1) v1 v2 v3 v4 s = if (nI 3) ≤ v4 then (zb (v2 + (1 : Int32)) fun x5 => kb v1 x5 s) else (zr_i s 80 ((nI 29) + v1)).bind fun x6 => (zw_i s 80 ((nI 29) + v1) (x6 ||| rb8 v3 v2 v4)).bind fun s7 => zb (v4 + (1 : Int32)) fun x8 => f_X8_readPerson_48 kb n v1 v2 v3 x8 s7 := rfl
theorem p32 (n : Nat) (v1 v2 : Int32) (s : zS) : f_X8_readPerson_32 (n + 1) v1 v2 s = if (nI 3) ≤ v2 then ((zw_i s 80 ((nI 15) + v1) (1 : Int32)).bind fun s9 => f_X8_readPerson_103 zFU v1 s9) else zbd (f_X8_takes (0 : Int32) (nI 7) s) fun r10 s11 => f_X8_readPerson_48 (f_X8_readPerson_32 n) zFU v1 v2 r10 (0 : Int32) s11 := rfl
/-- three bits of a row -/
theorem row8 (kb : Int32 → Int32 → zS → Option (Unit × zS)) {n i : Nat} (hn : n < 7) (v : Int32) : ∃ s', f_X8_readPerson_48 kb zFU (nI n) (nI i) v 0 s = kb (nI n) (nI (i + 1)) s' ∧ (∀ q, q ≠ 29 + n → s'.1 80 q = s.1 80 q) ∧ s'.1 80 (29 + n) = ((s.1 80 (29 + n) ||| rb8 v (nI i) 0) ||| rb8 v (nI i) 1) ||| rb8 v (nI i) (1 + 1) ∧ zk_k [80] s s' := by
  refine ⟨zs_i (zs_i (zs_i s 80 (29 + n) (s.1 80 (29 + n) ||| rb8 v (nI i) 0)) 80 (29 + n) ((s.1 80 (29 + n) ||| rb8 v (nI i) 0) ||| rb8 v (nI i) 1)) 80 (29 + n) (((s.1 80 (29 + n) ||| rb8 v (nI i) 0) ||| rb8 v (nI i) 1) ||| rb8 v (nI i) (1 + 1)), ?_, fun q hq => by rw [zs_i_o _ _ _ _ _ hq, zs_i_o _ _ _ _ _ hq, zs_i_o _ _ _ _ _ hq], zs_i_v _ _ _ _, ((zk_k.rf.i (by decide)).i (by decide)).i (by decide)⟩
  rw [show zFU = 4999 + 1 from rfl, p48, if_neg (by decide), rd_80 s (29 + n) (nI_add _ _) (by omega), Option.bind_some, wr_80 s (29 + n) (nI_add _ _) (by omega), Option.bind_some, zb_eq, show (0 : Int32) + 1 = 1 from rfl]
  rw [show 4999 = 4998 + 1 from rfl, p48, if_neg (by decide), rd_80 _ (29 + n) (nI_add _ _) (by omega), Option.bind_some, wr_80 _ (29 + n) (nI_add _ _) (by omega), Option.bind_some, zb_eq, zs_i_v]
  rw [show 4998 = 4997 + 1 from rfl, p48, if_neg (by decide), rd_80 _ (29 + n) (nI_add _ _) (by omega), Option.bind_some, wr_80 _ (29 + n) (nI_add _ _) (by omega), Option.bind_some, zb_eq, zs_i_v]
  rw [show 4997 = 4996 + 1 from rfl, p48, if_pos (by decide), zb_eq, nI_1]
theorem p32_dead {n : Nat} (hn : n < 7) : ∀ j i c s, i + j = 3 → j + 1 ≤ c → ¬ s.1 76 11 = 0 → ∃ s', f_X8_readPerson_32 c (nI n) (nI i) s = some ((), s') ∧ zk_k [80] s s' := by
  intro j
  induction j with
  | zero =>
    intro i c s hi hc hd
    obtain ⟨c, rfl⟩ : ∃ q, c = q + 1 := ⟨c - 1, by omega⟩
    have hd2 : ¬ (zs_i s 80 (15 + n) 1).1 76 11 = 0 := by rw [zs_i_n _ _ _ _ _ (by decide)]; exact hd
    refine ⟨zs_i s 80 (15 + n) 1, ?_, zk_k.rf.i (by decide)⟩
    rw [p32, if_pos (nI_le (by omega) (by omega)), wr_80 s (15 + n) (nI_add _ _) (by omega), Option.bind_some, show zFU = 4999 + 1 from rfl, rP103, if_pos hd2, p121_dead hd2]
  | succ j ih =>
    intro i c s hi hc hd
    obtain ⟨c, rfl⟩ : ∃ q, c = q + 1 := ⟨c - 1, by omega⟩
    obtain ⟨s1, g1, -, -, g4⟩ := row8 (s := s) (f_X8_readPerson_32 c) (i := i) hn (s.1 76 10)
    obtain ⟨s2, q1, q2⟩ := ih (i + 1) c s1 (by omega) (by omega) (by rw [(g4 76 (by decide)).1]; exact hd)
    refine ⟨s2, ?_, g4.tr q2⟩
    rw [p32, if_neg (nI_ge (by omega) (by decide)), takes_dead hd, zbd_some, g1, q1]
def DRg (s : zS) (ln : Nat) (X : DTY) (G : Nat) : Prop := DR1 s ln X ∧ ZR s (X.1 + 1) ∧ s.1 80 (29 + X.1) = nI G ∧ s.1 80 (36 + X.1) = 0 ∧ s.1 80 (8 + X.1) = 0
theorem DRg.st {G : Nat} (hD : DRg s ln X G) (hX : DX X m) (h7 : X.1 < 7) (h : RS s t b L N k m cs) : DRg t ln X G := ⟨hD.1.st hX h, hD.2.1.st h, by rw [h.2.2.2.2.2 _ (by omega)]; exact hD.2.2.1, by rw [h.2.2.2.2.2 _ (by omega)]; exact hD.2.2.2.1, by rw [h.2.2.2.2.2 _ (by omega)]; exact hD.2.2.2.2⟩
theorem LNB.pre {F F' : zS → Option (Int32 × zS)} {G G' : zS → Option (Unit × zS)} {PC PR PC' PR' : zS → Prop} {m' : Nat} (hB : LNB F' G' PC' PR' b L N k1 m' ln) (hk : k ≤ k1) (hC : ∀ s, CT s b L N k m → PC s → ∃ s1, CT s1 b L N k1 m' ∧ PC' s1 ∧ CF2 s s1 ∧ F s = F' s1) (hR : ∀ s, RT s b L N k m → PR s → ∃ s1, RT s1 b L N k1 m' ∧ PR' s1 ∧ RF2 s s1 ∧ G s = G' s1) : LNB F G PC PR b L N k m ln := by
  rcases hB with ⟨kd, j, b1, b2, b3, bC, bR⟩ | ⟨k2, m2, X2, o1, o2, o3, oC, oR⟩
  · refine Or.inl ⟨kd, j, b1, b2, b3, fun s h1 h2 => ?_, fun s h1 h2 => ?_⟩
    · obtain ⟨s1, c1, c2, c3, c4⟩ := hC s h1 h2
      obtain ⟨s2, q1, q2⟩ := bC s1 c1 c2
      exact ⟨s2, c4.trans q1, CB2.pre c3 q2⟩
    · obtain ⟨s1, c1, c2, c3, c4⟩ := hR s h1 h2
      obtain ⟨s2, q1, q2⟩ := bR s1 c1 c2
      exact ⟨s2, c4.trans q1, RB2.pre c3 q2⟩
  · refine Or.inr ⟨k2, m2, X2, by omega, o2, o3, fun s h1 h2 => ?_, fun s h1 h2 => ?_⟩
    · obtain ⟨s1, c1, c2, c3, c4⟩ := hC s h1 h2
      obtain ⟨s2, q1, q2, q3, q4⟩ := oC s1 c1 c2
      exact ⟨s2, c4.trans q1, q2, q3, c3.tr q4⟩
    · obtain ⟨s1, c1, c2, c3, c4⟩ := hR s h1 h2
      obtain ⟨s2, q1, q2, q3, q4⟩ := oR s1 c1 c2
      exact ⟨s2, c4.trans q1, q2, q3, c3.tr q4⟩
/-- the answer of a rule is 0 or 1 -/
theorem LNB.tail {F F' : zS → Option (Int32 × zS)} {G G' : zS → Option (Unit × zS)} {PC PR : zS → Prop} (hB : LNB F G PC PR b L N k m ln) (hF : ∀ s r s', (r = 0 ∨ r = 1) → F s = some (r, s') → F' s = some (r, s')) (hG : ∀ s s', G s = some ((), s') → G' s = some ((), s')) : LNB F' G' PC PR b L N k m ln := by
  rcases hB with ⟨kd, j, b1, b2, b3, bC, bR⟩ | ⟨k2, m2, X2, o1, o2, o3, oC, oR⟩
  · refine Or.inl ⟨kd, j, b1, b2, b3, fun s h1 h2 => ?_, fun s h1 h2 => ?_⟩
    · obtain ⟨s2, q1, q2⟩ := bC s h1 h2
      exact ⟨s2, hF s _ _ (Or.inl rfl) q1, q2⟩
    · obtain ⟨s2, q1, q2⟩ := bR s h1 h2
      exact ⟨s2, hG s _ q1, q2⟩
  · refine Or.inr ⟨k2, m2, X2, o1, o2, o3, fun s h1 h2 => ?_, fun s h1 h2 => ?_⟩
    · obtain ⟨s2, q1, q2⟩ := oC s h1 h2
      exact ⟨s2, hF s _ _ (Or.inr rfl) q1, q2⟩
    · obtain ⟨s2, q1, q2⟩ := oR s h1 h2
      exact ⟨s2, hG s _ q1, q2⟩
theorem signs (hTN : TN b L N) (hX : DX X m) (h7 : X.1 < 7) : ∀ j i G k n7 n8, i + j = 3 → G < 512 → 0 < k → k ≤ N → j + 1 ≤ n7 → j + 1 ≤ n8 → LNB (f_X3_readPerson_4 n7 (nI X.1) (nI G) (nI i)) (f_X8_readPerson_32 n8 (nI X.1) (nI i)) (fun s => DCx s ln X) (fun s => DRg s ln X G) b L N k m ln := by
  have hN := hTN.2.1
  have hL := hTN.1
  intro j
  induction j with
  | zero =>
    intro i G k n7 n8 hi hG h0 hk h1 h2
    obtain ⟨n7, rfl⟩ : ∃ q, n7 = q + 1 := ⟨n7 - 1, by omega⟩
    obtain ⟨n8, rfl⟩ : ∃ q, n8 = q + 1 := ⟨n8 - 1, by omega⟩
    have hfl := flags (ln := ln) hTN hX h7 1000 k hk (by omega) (by decide) (fun f => if f = 0 then G else if f = 3 then 1 else 0) ⟨hG, show (0 : Nat) < 10 by decide, show (0 : Nat) ≤ 10 by decide, show (1 : Nat) < 10 by decide⟩ zFU zFU 0 (by decide) (by decide) (by omega)
    have hfl2 : LNB (fun s => zbd (f_X3_readFlags (nI X.1) s) fun r6 s7 => if r6 = 0 ∨ r6 = 1 then some (r6, s7) else none) (f_X8_readPerson_103 zFU (nI X.1)) (fun s => DCx s ln (XA X (fun f => if f = 0 then G else if f = 3 then 1 else 0))) (fun s => DRf s ln X (fun f => if f = 0 then G else if f = 3 then 1 else 0)) b L N k m ln := LNB.tail hfl (fun s r s' hr h => by
      have h' : f_X3_readFlags (nI X.1) s = some (r, s') := h
      show (zbd (f_X3_readFlags (nI X.1) s) fun r6 s7 => if r6 = 0 ∨ r6 = 1 then some (r6, s7) else none) = _
      rw [h', zbd_some, if_pos hr]) (fun s s' h => h)
    refine LNB.pre hfl2 (Nat.le_refl _) (fun s hC hD => ?_) (fun s hR hD => ?_)
    · obtain ⟨d1, d2, d3, d4, d5⟩ := hD
      refine ⟨zs_i (zs_i (zs_i (zs_i (zs_i s 32 X.1 (nI G)) 33 X.1 0) 34 X.1 0) 35 X.1 1) 31 0 (nI (X.1 + 1)), CT.i31 (by decide) (CT.in (by decide) (CT.in (by decide) (CT.in (by decide) (CT.in (by decide) hC)))), ⟨zs_i_v _ _ _ _, d2, fun f p hf hp => ?_, d4, fun q hq => ?_⟩, (((((CF2.rf).i (by decide)).i (by decide)).i (by decide)).i (by decide)).i (by decide), ?_⟩
      · show _ = nI (gA X.2.1 X.1 (fun f => if f = 0 then G else if f = 3 then 1 else 0) f p)
        have hp : p < X.1 + 1 := hp
        rw [zs_i_n _ _ _ _ _ (by omega)]
        by_cases e : p = X.1
        · subst e
          rw [gA_n]
          rcases (show f = 0 ∨ f = 1 ∨ f = 2 ∨ f = 3 by omega) with q | q | q | q
          · subst q
            rw [zs_i_n _ _ _ _ _ (by decide), zs_i_n _ _ _ _ _ (by decide), zs_i_n _ _ _ _ _ (by decide)]; exact zs_i_v _ _ _ _
          · subst q
            rw [zs_i_n _ _ _ _ _ (by decide), zs_i_n _ _ _ _ _ (by decide)]; exact zs_i_v _ _ _ _
          · subst q
            rw [zs_i_n _ _ _ _ _ (by decide)]; exact zs_i_v _ _ _ _
          · subst q
            exact zs_i_v _ _ _ _
        · rw [gA_o _ _ _ e]
          have h3 := d3 f p hf (by omega)
          have hw : ∀ (t : zS) (q : Nat) (v : Int32), (zs_i t q X.1 v).1 (32 + f) p = t.1 (32 + f) p := fun t q v => by
            by_cases eq : 32 + f = q
            · subst eq; exact zs_i_o _ _ _ _ _ e
            · rw [zs_i_n _ _ _ _ _ eq]
          rw [hw, hw, hw, hw]; exact h3
      · have e1 : ∀ q, q ≠ 0 → (zs_i (zs_i (zs_i (zs_i (zs_i s 32 X.1 (nI G)) 33 X.1 0) 34 X.1 0) 35 X.1 1) 31 0 (nI (X.1 + 1))).1 31 q = s.1 31 q := fun q hq => by
          rw [zs_i_o _ _ _ _ _ hq, zs_i_n _ _ _ _ _ (by decide), zs_i_n _ _ _ _ _ (by decide), zs_i_n _ _ _ _ _ (by decide), zs_i_n _ _ _ _ _ (by decide)]
        rw [e1 _ (by omega), e1 _ (by omega)]
        exact d5 q hq
      · rw [p4, if_pos (nI_le (by omega) (by omega)), if_pos (nI_lt h7 (by decide)), wr_32 s X.1 rfl h7, Option.bind_some, wr_33 _ X.1 rfl h7, Option.bind_some, wr_34 _ X.1 rfl h7, Option.bind_some, wr_35 _ X.1 rfl h7, Option.bind_some, zb_eq, nI_1]
    · obtain ⟨d1, dz, g1, g2, g3⟩ := hD
      obtain ⟨e1, e2, e3, e4, e5, e6⟩ := d1
      refine ⟨zs_i s 80 (15 + X.1) 1, RT.i80 (by omega) hR, ⟨⟨by rw [zs_i_o _ _ _ _ _ (by omega)]; exact e1, by rw [zs_i_o _ _ _ _ _ (by omega)]; exact e2, by rw [zs_i_o _ _ _ _ _ (by omega)]; exact e3, fun f p hf hp => ?_, fun p hp => by rw [zs_i_o _ _ _ _ _ (by omega)]; exact e5 p hp, fun q hq => ⟨fun z => ?_, fun z => ?_⟩⟩, fun f p hf hp hp7 => ?_, fun f hf => ?_⟩, (RF2.rf).i, ?_⟩
      · rw [zs_i_o _ _ _ _ _ (fun z => by have := (rbs_i (f2 := 3) hf (by decide) (by omega) h7 z).2; omega)]; exact e4 f p hf hp
      · rw [zs_i_o _ _ _ _ _ (by omega)]; exact (e6 q hq).1 z
      · obtain ⟨a1, a2, a3, a4⟩ := (e6 q hq).2 z
        exact ⟨by rw [zs_i_o _ _ _ _ _ (by omega)]; exact a1, by rw [zs_i_o _ _ _ _ _ (by omega)]; exact a2, by rw [zs_i_o _ _ _ _ _ (by omega)]; exact a3, fun i hi => by rw [zs_i_o _ _ _ _ _ (by omega)]; exact a4 i hi⟩
      · rw [zs_i_o _ _ _ _ _ (fun z => by have := (rbs_i (f2 := 3) (by omega) (by decide) hp7 h7 z).2; omega)]; exact dz f p hf hp hp7
      · rcases (show f = 0 ∨ f = 1 ∨ f = 2 ∨ f = 3 by omega) with q | q | q | q
        · subst q
          rw [zs_i_o _ _ _ _ _ (by show 29 + X.1 ≠ _; omega)]; exact g1
        · subst q
          rw [zs_i_o _ _ _ _ _ (by show 36 + X.1 ≠ _; omega)]; exact g2
        · subst q
          rw [zs_i_o _ _ _ _ _ (by show 8 + X.1 ≠ _; omega)]; exact g3
        · subst q
          exact zs_i_v _ _ _ _
      · rw [p32, if_pos (nI_le (by omega) (by omega)), wr_80 s (15 + X.1) (nI_add _ _) (by omega), Option.bind_some]
  | succ j ih =>
    intro i G k n7 n8 hi hG h0 hk h1 h2
    obtain ⟨n7, rfl⟩ : ∃ q, n7 = q + 1 := ⟨n7 - 1, by omega⟩
    obtain ⟨n8, rfl⟩ : ∃ q, n8 = q + 1 := ⟨n8 - 1, by omega⟩
    have bad : ∀ kd, 0 < kd → kd < 5 → (∀ s1, CT s1 b L N k m → ∃ s', f_X3_takeNumber (nI 7) s1 = some (-1, s') ∧ CB s1 s' b L kd k) → (∀ s1, RT s1 b L N k m → ∃ r s', f_X8_takes 0 (nI 7) s1 = some (r, s') ∧ RB s1 s' b L kd k) → LNB (f_X3_readPerson_4 (n7 + 1) (nI X.1) (nI G) (nI i)) (f_X8_readPerson_32 (n8 + 1) (nI X.1) (nI i)) (fun s => DCx s ln X) (fun s => DRg s ln X G) b L N k m ln := fun kd k0 k5 bC bR => by
      refine Or.inl ⟨kd, k, k0, k5, hk, fun s hC hD => ?_, fun s hR hD => ?_⟩
      · obtain ⟨s2, t1, t2⟩ := bC s hC
        refine ⟨s2, ?_, t2.c2⟩
        rw [p4, if_neg (nI_ge (by omega) (by decide)), t1, zbd_some, if_pos (by decide)]; rfl
      · obtain ⟨r, s2, t1, t2⟩ := bR s hR
        have hdd := t2.dead k0 k5
        obtain ⟨s3, g1, -, -, g4⟩ := row8 (s := s2) (f_X8_readPerson_32 n8) (i := i) h7 r
        obtain ⟨s4, q1, q2⟩ := p32_dead h7 j (i + 1) n8 s3 (by omega) (by omega) (by rw [(g4 76 (by decide)).1]; exact hdd)
        have g5 := g4.tr q2
        refine ⟨s4, ?_, by rw [(g5 76 (by decide)).1]; exact t2.1, by rw [(g5 76 (by decide)).1]; exact t2.2.1, t2.2.2.r2.tr ⟨g5.mono (by decide), fun j _ _ _ _ _ _ _ => by rw [(g5 76 (by decide)).1]⟩⟩
        rw [p32, if_neg (nI_ge (by omega) (by decide)), t1, zbd_some, g1, q1]
    by_cases h23 : TK b L k = 23
    · by_cases hv : TV b L k ≤ 7
      · have hkN := TK_N hTN hk (by omega)
        obtain ⟨z1, z2⟩ := tbr_7 i (by omega) _ (show TV b L k < 8 by omega)
        refine LNB.pre (k1 := k + 1) (m' := m) (ih (i + 1) (G ||| (tbr (TV b L k) <<< (3 * i))) (k + 1) n7 n8 (by omega) (Nat.or_lt_two_pow (n := 9) hG z2) (by omega) (by omega) (by omega) (by omega)) (by omega) (fun s hC hD => ?_) (fun s hR hD => ?_)
        · obtain ⟨s1, g1, g2⟩ := (number7 hC (B := 7) (by decide)).1 h23 hv
          refine ⟨s1, g2.1, hD.st hX g2, g2.2.2.2.c2, ?_⟩
          rw [p4, if_neg (nI_ge (by omega) (by decide)), g1, zbd_some, if_neg (nI_pos (by omega)), if_pos (nI_le hv (by decide)), tbr_t _ (by omega), Option.bind_some, zb_eq, zb_eq, z1, nI_or, nI_1]
        · obtain ⟨s1, g1, g2⟩ := (takes8 hR (z := 8) (by decide) (v2 := nI 7) rfl).1 h23 (by omega)
          obtain ⟨⟨e1, e2, e3, e4, e5, e6⟩, dz, f1, f2, f3⟩ := hD.st hX h7 g2
          obtain ⟨s2, q1, q2, q3, q4⟩ := row8 (s := s1) (f_X8_readPerson_32 n8) (i := i) h7 (nI (TV b L k))
          have hn := hX.1
          have hR1 : RT s1 b L N (k + 1) m := g2.1
          have e76 : s2.1 76 = s1.1 76 := (q4 76 (by decide)).1
          have e79 : s2.1 79 = s1.1 79 := (q4 79 (by decide)).1
          refine ⟨s2, ?_, ⟨⟨by rw [q2 _ (by omega)]; exact e1, by rw [q2 _ (by omega)]; exact e2, by rw [q2 _ (by omega)]; exact e3, fun f p hf hp => ?_, fun p hp => by rw [q2 _ (by omega)]; exact e5 p hp, fun q hq => ⟨fun z => ?_, fun z => ?_⟩⟩, fun f p hf hp hp7 => ?_, ?_, ?_, ?_⟩, g2.2.2.2.r2.tr ⟨q4.mono (by decide), fun j _ _ _ _ _ _ _ => by rw [e76]⟩, ?_⟩
          · obtain ⟨r1, r2, r3, r4, r5, r6, r7, r8, r9, r10⟩ := hR1
            refine ⟨r1, ⟨r2.1, by rw [e76]; exact r2.2.1, fun i hi => by rw [e79]; exact r2.2.2 i hi⟩, r3, by rw [e76]; exact r4, by rw [e76]; exact r5, by rw [e76]; exact r6, by rw [e76]; exact r7, by rw [e76]; exact r8, by rw [q2 _ (by omega)]; exact r9, r10⟩
          · rw [q2 _ (fun z => by have := (rbs_i (f2 := 0) hf (by decide) (by omega) h7 z).2; omega)]; exact e4 f p hf hp
          · rw [q2 _ (by omega)]; exact (e6 q hq).1 z
          · obtain ⟨a1, a2, a3, a4⟩ := (e6 q hq).2 z
            exact ⟨by rw [q2 _ (by omega)]; exact a1, by rw [q2 _ (by omega)]; exact a2, by rw [q2 _ (by omega)]; exact a3, fun i hi => by rw [q2 _ (by omega)]; exact a4 i hi⟩
          · rw [q2 _ (fun z => by have := (rbs_i (f2 := 0) (by omega) (by decide) hp7 h7 z).2; omega)]; exact dz f p hf hp hp7
          · rw [q3, f1, Int32.or_assoc, Int32.or_assoc, ← Int32.or_assoc (rb8 _ _ _), tbr_8 i (by omega) _ (by omega), nI_or]
          · rw [q2 _ (by omega)]; exact f2
          · rw [q2 _ (by omega)]; exact f3
          · rw [p32, if_neg (nI_ge (by omega) (by decide)), g1, zbd_some, q1]
      · exact bad 3 (by decide) (by decide) (fun s1 h1 => (number7 h1 (B := 7) (by decide)).2.1 h23 (by omega)) (fun s1 h1 => (takes8 h1 (z := 8) (by decide) rfl).2.1 h23 (by omega))
    · have hf2 := fkd_r (b := b) (L := L) (k := k) (v := 2) (by decide) (by decide)
      exact bad _ hf2.1 hf2.2 (fun s1 h1 => (number7 h1 (B := 7) (by decide)).2.2 h23) (fun s1 h1 => (takes8 h1 (z := 8) (by decide) rfl).2.2 h23)
theorem line_person (hTN : TN b L N) (hk : k ≤ N) (hK : TK b L k = 1) (hX : DX X m) : LNB f_X3_readLine f_X8_readLine (fun s => DCx s ln X) (fun s => DR s ln X) b L N k m ln := by
  have hkN := TK_N hTN hk (by omega)
  have hn := hX.1
  have e1 : nI (TC b L k) = nI 1201 ↔ TK b L k = 1 := tcE hTN hk (by decide) (by decide) rfl
  have rR : ∀ s, RT s b L N k m → f_X8_readLine s = zbd (f_X8_readPerson s) fun _ s12 => f_X8_readLine_75 s12 := fun s hR => by
    rw [f_X8_readLine, if_pos hR.2.2.2.2.2.2.2.1, show (1 : Int32) = nI 1 from rfl, is8 hR (by decide), if_pos hK, zbd_some, if_neg (by decide)]
  by_cases h7 : X.1 < 7
  · have hs := signs (ln := ln) hTN hX h7 3 0 0 (k + 1) zFU zFU rfl (by decide) (by omega) (by omega) (by decide) (by decide)
    have hs2 : LNB (fun s => zbd (f_X3_readPerson (nI X.1) s) fun r6 s7 => if r6 = 0 ∨ r6 = 1 then some (r6, s7) else none) (fun s => zbd (f_X8_readPerson_32 zFU (nI X.1) 0 s) fun _ s12 => f_X8_readLine_75 s12) (fun s => DCx s ln X) (fun s => DRg s ln X 0) b L N (k + 1) m ln := LNB.tail hs (fun s r s' hr h => by
      have h' : f_X3_readPerson (nI X.1) s = some (r, s') := h
      show (zbd (f_X3_readPerson (nI X.1) s) fun r6 s7 => if r6 = 0 ∨ r6 = 1 then some (r6, s7) else none) = _
      rw [h', zbd_some, if_pos hr]) (fun s s' h => by
      have h' : f_X8_readPerson_32 zFU (nI X.1) 0 s = some ((), s') := h
      show (zbd (f_X8_readPerson_32 zFU (nI X.1) 0 s) fun _ s12 => f_X8_readLine_75 s12) = _
      rw [h', zbd_some]; rfl)
    refine LNB.pre hs2 (by omega) (fun s hC hD => ?_) (fun s hR hD => ?_)
    · obtain ⟨s1, g1, g2⟩ := stepS hC hkN
      have hD1 := hD.st hX g2
      refine ⟨s1, g2.1, hD1, g2.2.2.2.c2, ?_⟩
      rw [f_X3_readLine, tok7 hC, Option.bind_some, if_neg (fun z => z (e1.mpr hK)), hD.1, if_pos (nI_lt h7 (by decide)), f_X3_readLine_35, if_pos (e1.mpr hK), f_X3_readLine_69, g1, zbd_some, if_neg (fun z => z (e1.mpr hK)), hD1.1]
    · obtain ⟨s1, g1, g2⟩ := nextS hR hkN
      have hD1 := hD.st hX g2
      refine ⟨s1, g2.1, ⟨hD1.1, fun f p hf hp hp7 => hD1.2 f p hf (by omega) hp7, hD1.2 0 X.1 (by decide) (Nat.le_refl _) h7, hD1.2 1 X.1 (by decide) (Nat.le_refl _) h7, hD1.2 2 X.1 (by decide) (Nat.le_refl _) h7⟩, g2.2.2.2.r2, ?_⟩
      rw [rR s hR, f_X8_readPerson, rd_80 s (x := 1) 1 rfl (by decide), Option.bind_some, hD.1.1, if_pos (ne_of_nI (by omega) (by omega) (by omega)), f_X8_readPerson_18, if_pos hR.2.2.2.2.2.2.2.1, g1, zbd_some]
  · have e7 : X.1 = 7 := by omega
    refine Or.inl ⟨4, k, by decide, by decide, hk, fun s hC hD => ?_, fun s hR hD => ?_⟩
    · obtain ⟨s', g1, g2⟩ := refuseS hC 4
      rw [fkd_n (by omega)] at g2
      refine ⟨s', ?_, g2.c2⟩
      rw [f_X3_readLine, tok7 hC, Option.bind_some, if_neg (fun z => z (e1.mpr hK)), hD.1, if_neg (nI_nlt (by omega) (by omega)), g1, zbd_some, if_pos (Or.inl rfl)]
    · obtain ⟨s', g1, g2⟩ := failsS hR 4
      rw [fkd_n (by omega)] at g2
      have hdd := g2.dead (by decide) (by decide)
      refine ⟨s', ?_, g2.r2⟩
      rw [rR s hR, f_X8_readPerson, rd_80 s (x := 1) 1 rfl (by decide), Option.bind_some, hD.1.1, e7, if_neg (fun z => z rfl), g1, zbd_some, f_X8_readPerson_18, if_neg hdd, zbd_some]; rfl
/-- a line, whatever it is -/
theorem line_both (hTN : TN b L N) (hk : k ≤ N) (hX : DX X m) : LNB f_X3_readLine f_X8_readLine (fun s => DCx s ln X) (fun s => DR s ln X) b L N k m ln := by
  by_cases h1 : TK b L k = 1
  · exact line_person hTN hk h1 hX
  · by_cases h2 : TK b L k = 2
    · exact line_engaged hTN hk h2 hX
    · by_cases h6 : TK b L k = 6
      · exact line_law (w := 0) hTN (by decide) hk h6 hX
      · by_cases h7 : TK b L k = 7
        · exact line_law (w := 1) hTN (by decide) hk h7 hX
        · exact line_other hTN hk ⟨h1, h2, h6, h7⟩
end SIGNLINE
