section LAWLINE
variable {b : Nat → Nat} {L N k k1 k2 m w kd j ln : Nat} {s t u : zS} {cs ds : List Nat} {X : DTY}
theorem CT.i6 {v : Int32} (h : CT s b L N k m) : CT (zs_i s 30 6 v) b L N k m := ⟨h.1, fun i hi => h.2.1 i hi, h.2.2.1, h.2.2.2.1, h.2.2.2.2.1, h.2.2.2.2.2.1, h.2.2.2.2.2.2⟩
theorem CT.i31 {v : Int32} {j : Nat} (hj : j ≠ 8) (h : CT s b L N k m) : CT (zs_i s 31 j v) b L N k m := ⟨h.1, fun i hi => h.2.1 i hi, h.2.2.1, h.2.2.2.1, h.2.2.2.2.1, by rw [zs_i_o _ _ _ _ _ (Ne.symm hj)]; exact h.2.2.2.2.2.1, h.2.2.2.2.2.2⟩
theorem CT.in {v : Int32} {q j : Nat} (hq : 32 ≤ q ∧ q ≤ 36) (h : CT s b L N k m) : CT (zs_i s q j v) b L N k m := ⟨h.1, fun i hi => by rw [zs_i_n _ _ _ _ _ (by omega), zs_i_n _ _ _ _ _ (by omega)]; exact h.2.1 i hi, h.2.2.1, by rw [zs_i_n _ _ _ _ _ (by omega)]; exact h.2.2.2.1, by rw [zs_i_n _ _ _ _ _ (by omega)]; exact h.2.2.2.2.1, by rw [zs_i_n _ _ _ _ _ (by omega)]; exact h.2.2.2.2.2.1, h.2.2.2.2.2.2⟩
theorem RT.i15 {v : Int32} (h : RT s b L N k m) : RT (zs_i s 76 15 v) b L N k m := ⟨h.1, h.2.1, h.2.2.1, h.2.2.2.1, h.2.2.2.2.1, h.2.2.2.2.2.1, h.2.2.2.2.2.2.1, h.2.2.2.2.2.2.2.1, h.2.2.2.2.2.2.2.2.1, h.2.2.2.2.2.2.2.2.2⟩
theorem RT.i80 {v : Int32} {j : Nat} (hj : j ≠ 254) (h : RT s b L N k m) : RT (zs_i s 80 j v) b L N k m := ⟨h.1, h.2.1, h.2.2.1, h.2.2.2.1, h.2.2.2.2.1, h.2.2.2.2.2.1, h.2.2.2.2.2.2.1, h.2.2.2.2.2.2.2.1, by rw [zs_i_o _ _ _ _ _ (Ne.symm hj)]; exact h.2.2.2.2.2.2.2.2.1, h.2.2.2.2.2.2.2.2.2⟩
theorem CF2.i6 (h : CF2 s t) {v : Int32} : CF2 s (zs_i t 30 6 v) := ⟨h.1.i (by decide), fun j a b c d => by rw [zs_i_o _ _ _ _ _ d]; exact h.2 j a b c d⟩
theorem RF2.i15 (h : RF2 s t) {v : Int32} : RF2 s (zs_i t 76 15 v) := ⟨h.1.i (by decide), fun j a b c d e f g => by rw [zs_i_o _ _ _ _ _ g]; exact h.2 j a b c d e f g⟩
theorem DCx.i6 {v : Int32} (h : DCx s ln X) : DCx (zs_i s 30 6 v) ln X := by
  obtain ⟨h1, h2, h3, h4, h5⟩ := h
  refine ⟨h1, h2, fun f p hf hp => ?_, h4, h5⟩
  rw [zs_i_n _ _ _ _ _ (by omega)]; exact h3 f p hf hp
theorem DR.i15 {v : Int32} (h : DR s ln X) : DR (zs_i s 76 15 v) ln X := h
def bd7 (w : Nat) : zS → Option (Int32 × zS) := if w = 0 then f_X3_readTruth zDP 0 else f_X3_readSum zDP 0
def bd8 (w : Nat) : zS → Option (Unit × zS) := if w = 0 then f_X8_readTruth zDP 0 else f_X8_readSum zDP 0
theorem bd_both (hTN : TN b L N) (hw : w < 2) (hk : k ≤ N) : BOTH (bd7 w) (bd8 w) b L N k w 18 (decide (w = 0)) := by
  rcases (show w = 0 ∨ w = 1 by omega) with q | q
  · subst q; exact truth0 hTN (by decide) hk
  · subst q; exact (sum0 hTN (by decide) hk).mono (by decide)
theorem bd_dead (hw : w < 2) : DEAD (bd8 w) := by
  rcases (show w = 0 ∨ w = 1 by omega) with q | q
  · subst q; exact truth0_dead
  · subst q; exact sum0_dead
theorem law7_no (hw : w < 2) {s8 : zS} (ht : f_X3_take (nI 1101) (zs_i s 30 6 (nI w)) = some (0, s8)) : f_X3_readLine_117 (nI w) s = some (0, s8) := by
  rcases (show w = 0 ∨ w = 1 by omega) with q | q
  · subst q
    rw [f_X3_readLine_117, if_pos (show nI 0 = (0 : Int32) ∨ nI 0 = 1 from Or.inl rfl), zb_eq, zb_eq, ht, zbd_some, if_pos rfl]; rfl
  · subst q
    rw [f_X3_readLine_117, if_pos (show nI 1 = (0 : Int32) ∨ nI 1 = 1 from Or.inr rfl), zb_eq, zb_eq, ht, zbd_some, if_pos rfl]; rfl
theorem law7_bad (hw : w < 2) {s8 s10 : zS} (ht : f_X3_take (nI 1101) (zs_i s 30 6 (nI w)) = some (1, s8)) (h6 : s8.1 30 6 = nI w) (hb : bd7 w s8 = some (0, s10)) : f_X3_readLine_117 (nI w) s = some (0, s10) := by
  rcases (show w = 0 ∨ w = 1 by omega) with q | q
  · subst q
    rw [show bd7 0 = f_X3_readTruth zDP 0 from rfl] at hb
    rw [f_X3_readLine_117, if_pos (show nI 0 = (0 : Int32) ∨ nI 0 = 1 from Or.inl rfl), zb_eq, zb_eq, ht, zbd_some, if_neg (by decide), h6, if_pos (show nI 0 = (0 : Int32) from rfl), hb, zbd_some, if_neg (fun z => z rfl)]; rfl
  · subst q
    rw [show bd7 1 = f_X3_readSum zDP 0 from rfl] at hb
    rw [f_X3_readLine_117, if_pos (show nI 1 = (0 : Int32) ∨ nI 1 = 1 from Or.inr rfl), zb_eq, zb_eq, ht, zbd_some, if_neg (by decide), h6, if_neg (by decide), hb, zbd_some, if_pos rfl]; rfl
theorem law7_ok (hw : w < 2) {s8 s10 : zS} (ht : f_X3_take (nI 1101) (zs_i s 30 6 (nI w)) = some (1, s8)) (h6 : s8.1 30 6 = nI w) (hb : bd7 w s8 = some (1, s10)) (h10 : s10.1 30 6 = nI w) : f_X3_readLine_117 (nI w) s = some (1, zs_i (zs_i s10 31 (9 + 2 * w) (s.1 31 8)) 31 (10 + 2 * w) (s10.1 31 8)) := by
  rcases (show w = 0 ∨ w = 1 by omega) with q | q
  · subst q
    rw [show bd7 0 = f_X3_readTruth zDP 0 from rfl] at hb
    rw [f_X3_readLine_117, if_pos (show nI 0 = (0 : Int32) ∨ nI 0 = 1 from Or.inl rfl), zb_eq, zb_eq, ht, zbd_some, if_neg (by decide), h6, if_pos (show nI 0 = (0 : Int32) from rfl), hb, zbd_some, if_pos (by decide), f_X3_readLine_166, f_X3_keepLaw, h10, if_pos (show nI 0 = (0 : Int32) from rfl), zb_eq, zb_eq, zs_i_n _ _ _ _ _ (by decide), zs_i_o _ _ _ _ _ (by decide)]; rfl
  · subst q
    rw [show bd7 1 = f_X3_readSum zDP 0 from rfl] at hb
    rw [f_X3_readLine_117, if_pos (show nI 1 = (0 : Int32) ∨ nI 1 = 1 from Or.inr rfl), zb_eq, zb_eq, ht, zbd_some, if_neg (by decide), h6, if_neg (by decide), hb, zbd_some, if_neg (by decide), f_X3_readLine_166, f_X3_keepLaw, h10, if_neg (by decide), zb_eq, zb_eq, zs_i_n _ _ _ _ _ (by decide), zs_i_o _ _ _ _ _ (by decide)]; rfl
theorem law8_18 (hw : w < 2) (h : s.1 80 254 = nI m) : f_X8_readLaw_18 (nI w) s = zbd (bd8 w (zs_i s 76 15 (nI w))) fun _ s7 => f_X8_readLaw_50 (nI w) (nI m) s7 := by
  rcases (show w = 0 ∨ w = 1 by omega) with q | q
  · subst q
    rw [f_X8_readLaw_18, rd_80 s 254 rfl (by decide), Option.bind_some, h, zb_eq, if_pos (by decide)]; rfl
  · subst q
    rw [f_X8_readLaw_18, rd_80 s 254 rfl (by decide), Option.bind_some, h, zb_eq, if_neg (by decide)]; rfl
theorem law8_dead (hw : w < 2) (h : ¬ s.1 76 11 = 0) : f_X8_readLaw_18 (nI w) s = some ((), zs_i s 76 15 (nI w)) := by
  have h2 : ¬ (zs_i s 76 15 (nI w)).1 76 11 = 0 := h
  have e : f_X8_readLaw_18 (nI w) s = zbd (bd8 w (zs_i s 76 15 (nI w))) fun _ s7 => f_X8_readLaw_50 (nI w) (s.1 80 254) s7 := by
    rcases (show w = 0 ∨ w = 1 by omega) with q | q
    · subst q
      rw [f_X8_readLaw_18, rd_80 s 254 rfl (by decide), Option.bind_some, zb_eq, if_pos (by decide)]; rfl
    · subst q
      rw [f_X8_readLaw_18, rd_80 s 254 rfl (by decide), Option.bind_some, zb_eq, if_neg (by decide)]; rfl
  rw [e, bd_dead hw _ h2, zbd_some, f_X8_readLaw_50, if_neg h2]
theorem law8_50 (hw : w < 2) {x : Nat} (h0 : s.1 76 11 = 0) (h : s.1 80 254 = nI (m + x)) : f_X8_readLaw_50 (nI w) (nI m) s = some ((), zs_i (zs_i (zs_i s 80 (2 + w) 1) 80 (4 + w) (nI m)) 80 (6 + w) (nI x)) := by
  rw [f_X8_readLaw_50, if_pos h0, wr_80 s (2 + w) (nI_add _ _) (by omega), Option.bind_some, wr_80 _ (4 + w) (nI_add _ _) (by omega), Option.bind_some, rd_80 _ 254 rfl (by decide), Option.bind_some, zs_i_o _ _ _ _ _ (by omega), zs_i_o _ _ _ _ _ (by omega), h, wr_80 _ (6 + w) (nI_add _ _) (by omega), Option.bind_some, pk_sub (by omega), show m + x - m = x by omega]
theorem line_law (hTN : TN b L N) (hw : w < 2) (hk : k ≤ N) (hK : TK b L k = 6 + w) (hX : DX X m) : LNB f_X3_readLine f_X8_readLine (fun s => DCx s ln X) (fun s => DR s ln X) b L N k m ln := by
  have hkN := TK_N hTN hk (by omega)
  have e1 : nI (TC b L k) = nI 1201 ↔ TK b L k = 1 := tcE hTN hk (by decide) (by decide) rfl
  have e2 : nI (TC b L k) = nI 1202 ↔ TK b L k = 2 := tcE hTN hk (by decide) (by decide) rfl
  have e6 : nI (TC b L k) = nI 1203 ↔ TK b L k = 6 := tcE hTN hk (by decide) (by decide) rfl
  have e7 : nI (TC b L k) = nI 1204 ↔ TK b L k = 7 := tcE hTN hk (by decide) (by decide) rfl
  have n1 : ¬ nI (TC b L k) = nI 1201 := fun z => by have := e1.mp z; omega
  have n2 : ¬ nI (TC b L k) = nI 1202 := fun z => by have := e2.mp z; omega
  have cC : ∀ s, CT s b L N k m → ∃ s1, CS s s1 b L N (k + 1) m [] ∧ f_X3_readLine s = f_X3_readLine_117 (nI w) s1 := fun s hC => by
    obtain ⟨s1, g1, g2⟩ := stepS hC hkN
    refine ⟨s1, g2, ?_⟩
    rcases (show w = 0 ∨ w = 1 by omega) with q | q
    · subst q
      rw [f_X3_readLine, tok7 hC, Option.bind_some, if_pos n1, f_X3_readLine_35, if_neg n1, if_neg n2, if_pos (e6.mpr hK), f_X3_readLine_69, g1, zbd_some, if_pos n1, if_pos n2, if_pos (fun z => by have := e7.mp z; omega)]; rfl
    · subst q
      rw [f_X3_readLine, tok7 hC, Option.bind_some, if_pos n1, f_X3_readLine_35, if_neg n1, if_neg n2, if_neg (fun z => by have := e6.mp z; omega), if_pos (e7.mpr hK), f_X3_readLine_69, g1, zbd_some, if_pos n1, if_pos n2, if_neg (fun z => z (e7.mpr hK))]; rfl
  have cR : ∀ s, RT s b L N k m → ∃ s1, RS s s1 b L N (k + 1) m [] ∧ f_X8_readLine s = zbd (zbd (f_X8_eats (nI 31) s1) fun r10 s11 => if ¬ r10 = 0 then (f_X8_readLaw_18 (nI w) s11) else zbd (f_X8_fails (nI 2) s11) fun _ s12 => f_X8_readLaw_18 (nI w) s12) fun _ s1 => some ((), s1) := fun s hR => by
    obtain ⟨s1, g1, g2⟩ := nextS hR hkN
    refine ⟨s1, g2, ?_⟩
    have h9 := hR.2.2.2.2.2.1
    have e56 : f_X8_readLine_56 s = zbd (zbd (f_X8_eats (nI 31) s1) fun r10 s11 => if ¬ r10 = 0 then (f_X8_readLaw_18 (nI w) s11) else zbd (f_X8_fails (nI 2) s11) fun _ s12 => f_X8_readLaw_18 (nI w) s12) fun _ s1 => some ((), s1) := by
      rw [f_X8_readLine_56, h9, hK, pk_sub (by omega), show 6 + w - 6 = w by omega, f_X8_readLaw, g1, zbd_some]; rfl
    rw [f_X8_readLine, if_pos hR.2.2.2.2.2.2.2.1, show (1 : Int32) = nI 1 from rfl, is8 hR (by decide), if_neg (by omega), zbd_some, if_pos rfl, is8 hR (by decide), if_neg (by omega), zbd_some, if_pos rfl, is8 hR (by decide)]
    rcases (show w = 0 ∨ w = 1 by omega) with q | q
    · subst q
      rw [if_pos hK, zbd_some, if_pos (by decide), e56]
    · subst q
      rw [if_neg (by omega), zbd_some, if_neg (fun z => z rfl), is8 hR (by decide), if_pos hK, zbd_some, if_neg (by decide), e56]
  by_cases h31 : TK b L (k + 1) = 31
  · have hkN1 := TK_N hTN (show k + 1 ≤ N by omega) (by omega)
    have dC : ∀ s, CT s b L N k m → DCx s ln X → ∃ s1 s8, CS s s1 b L N (k + 1) m [] ∧ f_X3_take (nI 1101) (zs_i s1 30 6 (nI w)) = some (1, s8) ∧ CT s8 b L N (k + 2) m ∧ s8.1 30 6 = nI w ∧ DCx s8 ln X ∧ CF2 s s8 ∧ f_X3_readLine s = f_X3_readLine_117 (nI w) s1 := fun s hC hD => by
      obtain ⟨s1, g1, g2⟩ := cC s hC
      have hD1 := hD.st hX g1
      have hC1 : CT s1 b L N (k + 1) m := g1.1
      obtain ⟨s8, t1, t2⟩ := (takeS (CT.i6 (v := nI w) hC1) (x := 31) (by decide) (by decide) (by decide)).1 h31
      exact ⟨s1, s8, g1, t1, t2.1, t2.ww (zs_i_v _ _ _ _), (DCx.i6 hD1).st hX t2, (g1.2.2.2.c2.i6).tr t2.2.2.2.c2, g2⟩
    have dR : ∀ s, RT s b L N k m → DR s ln X → ∃ s11, RT s11 b L N (k + 2) m ∧ DR s11 ln X ∧ RF2 s s11 ∧ f_X8_readLine s = zbd (f_X8_readLaw_18 (nI w) s11) fun _ s1 => some ((), s1) := fun s hR hD => by
      obtain ⟨s1, g1, g2⟩ := cR s hR
      have hD1 := hD.st hX g1
      have hR1 : RT s1 b L N (k + 1) m := g1.1
      obtain ⟨s8, t1, t2⟩ := (eatsS hR1 (x := 31) (by decide) (by decide)).1 h31
      refine ⟨s8, t2.1, hD1.st hX t2, g1.2.2.2.r2.tr t2.2.2.2.r2, ?_⟩
      rw [g2, t1, zbd_some, if_pos (by decide)]
    rcases bd_both hTN hw (show k + 2 ≤ N by omega) with ⟨kd, j, b1, b2, b3, bC, bR⟩ | ⟨k2, cs, o1, o2, o3, o4, oC, oR⟩
    · refine Or.inl ⟨kd, j, b1, b2, b3, fun s hC hD => ?_, fun s hR hD => ?_⟩
      · obtain ⟨s1, s8, -, t1, hC8, h6, -, hF, g2⟩ := dC s hC hD
        obtain ⟨s10, q1, q2⟩ := bC s8 m hC8 h6
        refine ⟨s10, ?_, CB2.pre hF (CB.c2 q2)⟩
        rw [g2, law7_bad hw t1 h6 q1]
      · obtain ⟨s11, hR8, -, hF, g2⟩ := dR s hR hD
        obtain ⟨s10, q1, q2⟩ := bR (zs_i s11 76 15 (nI w)) m hR8.i15 (zs_i_v _ _ _ _)
        have hdd := RB.dead q2 b1 b2
        refine ⟨s10, ?_, RB2.pre (hF.i15) (RB.r2 q2)⟩
        rw [g2, law8_18 hw hR8.2.2.2.2.2.2.2.2.1, q1, zbd_some, f_X8_readLaw_50, if_neg hdd, zbd_some]
    · refine Or.inr ⟨k2, m + cs.length, (X.1, X.2.1, X.2.2.1, fun q => if q = w then m else X.2.2.2.1 q, fun q => if q = w then cs else X.2.2.2.2.1 q, fun q => if q = w then true else X.2.2.2.2.2 q), by omega, o2, ⟨hX.1, hX.2.1, hX.2.2.1, hX.2.2.2.1, fun q hq => ?_⟩, fun s hC hD => ?_, fun s hR hD => ?_⟩
      · dsimp only
        by_cases e : q = w
        · rw [if_pos e, if_pos e, if_pos e]
          exact fun _ => ⟨Nat.le_refl _, by rw [e]; exact o4 [] (by decide)⟩
        · rw [if_neg e, if_neg e, if_neg e]
          intro z
          have := hX.2.2.2.2 q hq z
          exact ⟨by omega, this.2⟩
      · obtain ⟨s1, s8, g1, t1, hC8, h6, hD8, hF, g2⟩ := dC s hC hD
        obtain ⟨s10, q1, q2⟩ := oC s8 m hC8 h6
        have q2 : CS s8 s10 b L N k2 m cs := q2
        obtain ⟨d1, d2, d3, d4, d5⟩ := hD8.st hX q2
        have e8 : s1.1 31 8 = nI m := g1.1.2.2.2.2.2.1
        have e10 : s10.1 31 8 = nI (m + cs.length) := q2.1.2.2.2.2.2.1
        refine ⟨zs_i (zs_i s10 31 (9 + 2 * w) (nI m)) 31 (10 + 2 * w) (nI (m + cs.length)), ?_, CT.i31 (by omega) (CT.i31 (by omega) q2.1), ⟨?_, ?_, fun f p hf hp => ?_, fun p hp => ?_, fun q hq => ?_⟩, ((hF.tr q2.2.2.2.c2).i (by decide)).i (by decide)⟩
        · rw [g2, law7_ok hw t1 h6 q1 (q2.ww h6), e8, e10]
        · rw [zs_i_o _ _ _ _ _ (by omega), zs_i_o _ _ _ _ _ (by omega)]; exact d1
        · rw [zs_i_o _ _ _ _ _ (by omega), zs_i_o _ _ _ _ _ (by omega)]; exact d2
        · rw [zs_i_n _ _ _ _ _ (by omega), zs_i_n _ _ _ _ _ (by omega)]; exact d3 f p hf hp
        · rw [zs_i_n _ _ _ _ _ (by omega), zs_i_n _ _ _ _ _ (by omega)]; exact d4 p hp
        · dsimp only
          by_cases e : q = w
          · subst e
            rw [if_pos rfl, if_pos rfl, if_pos rfl]
            refine ⟨fun z => (by cases z), fun _ => ⟨?_, zs_i_v _ _ _ _, fun i hi => ?_⟩⟩
            · rw [zs_i_o _ _ _ _ _ (by omega)]; exact zs_i_v _ _ _ _
            · rw [zs_i_n _ _ _ _ _ (by omega), zs_i_n _ _ _ _ _ (by omega)]; exact q2.2.1 i hi
          · rw [if_neg e, if_neg e, if_neg e, zs_i_o _ _ _ _ _ (by omega), zs_i_o _ _ _ _ _ (by omega), zs_i_o _ _ _ _ _ (by omega), zs_i_o _ _ _ _ _ (by omega), zs_i_n _ _ _ _ _ (by omega), zs_i_n _ _ _ _ _ (by omega)]
            exact d5 q hq
      · obtain ⟨s11, hR8, hD8, hF, g2⟩ := dR s hR hD
        obtain ⟨s10, q1, q2⟩ := oR (zs_i s11 76 15 (nI w)) m hR8.i15 (zs_i_v _ _ _ _)
        have q2 : RS (zs_i s11 76 15 (nI w)) s10 b L N k2 m cs := q2
        have hD9 := (DR.i15 hD8).st hX q2
        obtain ⟨⟨d1, d2, d3, d4, d5, d6⟩, dz⟩ := hD9
        have hn := hX.1
        have e10 : s10.1 80 254 = nI (m + cs.length) := q2.1.2.2.2.2.2.2.2.2.1
        refine ⟨zs_i (zs_i (zs_i s10 80 (2 + w) 1) 80 (4 + w) (nI m)) 80 (6 + w) (nI cs.length), ?_, RT.i80 (by omega) (RT.i80 (by omega) (RT.i80 (by omega) q2.1)), ⟨⟨?_, ?_, ?_, fun f p hf hp => ?_, fun p hp => ?_, fun q hq => ?_⟩, fun f p hf hnp hp => ?_⟩, (((hF.i15).tr q2.2.2.2.r2).i.i).i⟩
        · rw [g2, law8_18 hw hR8.2.2.2.2.2.2.2.2.1, q1, zbd_some, law8_50 hw q2.1.2.2.2.2.2.2.2.1 e10, zbd_some]
        · rw [zs_i_o _ _ _ _ _ (by omega), zs_i_o _ _ _ _ _ (by omega), zs_i_o _ _ _ _ _ (by omega)]; exact d1
        · rw [zs_i_o _ _ _ _ _ (by omega), zs_i_o _ _ _ _ _ (by omega), zs_i_o _ _ _ _ _ (by omega)]; exact d2
        · rw [zs_i_o _ _ _ _ _ (by omega), zs_i_o _ _ _ _ _ (by omega), zs_i_o _ _ _ _ _ (by omega)]; exact d3
        · have hp : p < X.1 := hp
          have := rbs_r (f := f) p hf (by omega)
          rw [zs_i_o _ _ _ _ _ (by omega), zs_i_o _ _ _ _ _ (by omega), zs_i_o _ _ _ _ _ (by omega)]; exact d4 f p hf hp
        · rw [zs_i_o _ _ _ _ _ (by omega), zs_i_o _ _ _ _ _ (by omega), zs_i_o _ _ _ _ _ (by omega)]; exact d5 p hp
        · dsimp only
          by_cases e : q = w
          · subst e
            rw [if_pos rfl, if_pos rfl, if_pos rfl]
            refine ⟨fun z => (by cases z), fun _ => ⟨?_, ?_, zs_i_v _ _ _ _, fun i hi => ?_⟩⟩
            · rw [zs_i_o _ _ _ _ _ (by omega), zs_i_o _ _ _ _ _ (by omega)]; exact zs_i_v _ _ _ _
            · rw [zs_i_o _ _ _ _ _ (by omega)]; exact zs_i_v _ _ _ _
            · rw [zs_i_o _ _ _ _ _ (by omega), zs_i_o _ _ _ _ _ (by omega), zs_i_o _ _ _ _ _ (by omega)]; exact q2.2.1 i hi
          · rw [if_neg e, if_neg e, if_neg e]
            refine ⟨fun z => ?_, fun z => ?_⟩
            · rw [zs_i_o _ _ _ _ _ (by omega), zs_i_o _ _ _ _ _ (by omega), zs_i_o _ _ _ _ _ (by omega)]; exact (d6 q hq).1 z
            · obtain ⟨a1, a2, a3, a4⟩ := (d6 q hq).2 z
              refine ⟨?_, ?_, ?_, fun i hi => ?_⟩
              · rw [zs_i_o _ _ _ _ _ (by omega), zs_i_o _ _ _ _ _ (by omega), zs_i_o _ _ _ _ _ (by omega)]; exact a1
              · rw [zs_i_o _ _ _ _ _ (by omega), zs_i_o _ _ _ _ _ (by omega), zs_i_o _ _ _ _ _ (by omega)]; exact a2
              · rw [zs_i_o _ _ _ _ _ (by omega), zs_i_o _ _ _ _ _ (by omega), zs_i_o _ _ _ _ _ (by omega)]; exact a3
              · rw [zs_i_o _ _ _ _ _ (by omega), zs_i_o _ _ _ _ _ (by omega), zs_i_o _ _ _ _ _ (by omega)]; exact a4 i hi
        · have := rbs_r (f := f) p (by omega) hp
          rw [zs_i_o _ _ _ _ _ (by omega), zs_i_o _ _ _ _ _ (by omega), zs_i_o _ _ _ _ _ (by omega)]; exact dz f p hf hnp hp
  · have hf := fkd_r (b := b) (L := L) (k := k + 1) (v := 2) (by decide) (by decide)
    refine Or.inl ⟨fkd b L (k + 1) 2, k + 1, hf.1, hf.2, by omega, fun s hC hD => ?_, fun s hR hD => ?_⟩
    · obtain ⟨s1, g1, g2⟩ := cC s hC
      have hC1 : CT s1 b L N (k + 1) m := g1.1
      obtain ⟨s8, t1, t2⟩ := (takeS (CT.i6 (v := nI w) hC1) (x := 31) (by decide) (by decide) (by decide)).2 h31
      refine ⟨s8, ?_, CB2.pre (g1.2.2.2.c2.i6) t2.c2⟩
      rw [g2, law7_no hw t1]
    · obtain ⟨s1, g1, g2⟩ := cR s hR
      have hR1 : RT s1 b L N (k + 1) m := g1.1
      have t1 := (eatsS hR1 (x := 31) (by decide) (by decide)).2 h31
      obtain ⟨s3, t2, t3⟩ := failsS hR1 2
      have hdd := t3.dead hf.1 hf.2
      have t4 : RB2 s s3 b L (fkd b L (k + 1) 2) (k + 1) := RB2.pre g1.2.2.2.r2 t3.r2
      refine ⟨zs_i s3 76 15 (nI w), ?_, ⟨?_, ?_, t4.2.2.i15⟩⟩
      · rw [g2, t1, zbd_some, if_neg (fun z => z rfl), t2, zbd_some, law8_dead hw hdd, zbd_some]
      · rw [zs_i_o _ _ _ _ _ (by decide)]; exact t4.1
      · rw [zs_i_o _ _ _ _ _ (by decide)]; exact t4.2.1
end LAWLINE
