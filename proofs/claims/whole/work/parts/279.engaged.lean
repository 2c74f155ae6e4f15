section ENGLINE
variable {b : Nat → Nat} {L N k k1 k2 m w kd j ln : Nat} {s t u : zS} {cs ds : List Nat} {X : DTY}
theorem line_other (hTN : TN b L N) (hk : k ≤ N) (hK : TK b L k ≠ 1 ∧ TK b L k ≠ 2 ∧ TK b L k ≠ 6 ∧ TK b L k ≠ 7) : LNB f_X3_readLine f_X8_readLine (fun s => DCx s ln X) (fun s => DR s ln X) b L N k m ln := by
  have e1 : nI (TC b L k) = nI 1201 ↔ TK b L k = 1 := tcE hTN hk (by decide) (by decide) rfl
  have e2 : nI (TC b L k) = nI 1202 ↔ TK b L k = 2 := tcE hTN hk (by decide) (by decide) rfl
  have e6 : nI (TC b L k) = nI 1203 ↔ TK b L k = 6 := tcE hTN hk (by decide) (by decide) rfl
  have e7 : nI (TC b L k) = nI 1204 ↔ TK b L k = 7 := tcE hTN hk (by decide) (by decide) rfl
  have hf := fkd_r (b := b) (L := L) (k := k) (v := 2) (by decide) (by decide)
  refine Or.inl ⟨fkd b L k 2, k, hf.1, hf.2, hk, fun s hC hD => ?_, fun s hR hD => ?_⟩
  · obtain ⟨s', g1, g2⟩ := refuseS hC 2
    refine ⟨s', ?_, g2.c2⟩
    rw [f_X3_readLine, tok7 hC, Option.bind_some, if_pos (fun z => hK.1 (e1.mp z)), f_X3_readLine_35, if_neg (fun z => hK.1 (e1.mp z)), if_neg (fun z => hK.2.1 (e2.mp z)), if_neg (fun z => hK.2.2.1 (e6.mp z)), if_neg (fun z => hK.2.2.2 (e7.mp z)), g1, zbd_some, if_pos (Or.inl rfl)]
  · obtain ⟨s', g1, g2⟩ := failsS hR 2
    refine ⟨s', ?_, g2.r2⟩
    rw [f_X8_readLine, if_pos hR.2.2.2.2.2.2.2.1, show (1 : Int32) = nI 1 from rfl, is8 hR (by decide), if_neg hK.1, zbd_some, if_pos rfl, is8 hR (by decide), if_neg hK.2.1, zbd_some, if_pos rfl, is8 hR (by decide), if_neg hK.2.2.1, zbd_some, if_neg (fun z => z rfl), is8 hR (by decide), if_neg hK.2.2.2, zbd_some, if_pos rfl, g1, zbd_some]; rfl
theorem has7 (hD : DCx s ln X) (hX : DX X m) {x : Nat} (hx : x < 1000) : f_X5_has_31 (nI x) s = some (if x < X.1 then 1 else 0, s) := by
  have hn := hX.1
  unfold f_X5_has_31 f_X5_has_31_22 f_X5_has_31_23
  rw [if_neg (nI_pos (by omega)), hD.1]
  by_cases h : x < X.1
  · rw [if_neg (nI_ge h (by omega)), if_neg (nI_ge (by omega) (by omega)), if_pos (Or.inr rfl), if_pos h]
  · rw [if_pos (nI_le (by omega) (by omega)), if_pos (Or.inl rfl), if_neg h]
theorem W_c (hX : DX X m) {x : Nat} (hx : x < X.1) (hW : ¬ X.2.2.1 x = -1) : ∃ q, q < 7 ∧ X.2.2.1 x = nI q := by
  have hn := hX.1
  rcases hX.2.2.1 x hx with h | ⟨q, q1, -, q2, -⟩
  · exact absurd h hW
  · exact ⟨q, by omega, q2⟩
theorem person7 (h : CT s b L N k m) (hD : DCx s ln X) (hX : DX X m) (v : Int32) : (¬ TK b L k = 23 → ∃ s', f_X3_takePerson v s = some (-1, s') ∧ CB s s' b L (fkd b L k 2) k) ∧ (TK b L k = 23 → TV b L k < X.1 → ¬ v = nI (TV b L k) → X.2.2.1 (TV b L k) = -1 → ∃ s', f_X3_takePerson v s = some (nI (TV b L k), s') ∧ CS s s' b L N (k + 1) m []) ∧ (TK b L k = 23 → (X.1 ≤ TV b L k ∨ v = nI (TV b L k) ∨ (TV b L k < X.1 ∧ ¬ X.2.2.1 (TV b L k) = -1)) → ∃ s', f_X3_takePerson v s = some (-1, s') ∧ CB s s' b L 3 k) := by
  have hk := h.2.2.1
  have hlt := TC_lt h.1 hk
  have e1 := TC_1000 h.1 hk
  have hn := hX.1
  have e2 : TK b L k = 23 → TC b L k = TV b L k := fun e => by
    show lxK (TK b L k) (TV b L k) = _
    rw [e]; rfl
  refine ⟨fun e => ?_, fun e hx hv hW => ?_, fun e hc => ?_⟩
  · obtain ⟨s', g1, g2⟩ := refuseS h 2
    have : 1000 ≤ TC b L k := Nat.le_of_not_lt (fun z => e (e1.mp z))
    refine ⟨s', ?_, g2⟩
    rw [f_X3_takePerson, tok7 h, Option.bind_some, if_neg (nI_nlt this (by omega)), g1, zbd_some]
  · obtain ⟨s', g1, g2⟩ := stepS h (TK_N h.1 hk (by omega))
    have hlt2 := e1.mpr e
    refine ⟨s', ?_, g2⟩
    rw [f_X3_takePerson, tok7 h, Option.bind_some, e2 e, if_pos (nI_lt (by omega) (by omega)), has7 hD hX (by omega), if_pos hx, zbd_some, if_neg (by decide), if_neg (fun z => hv z.symm), rd_36 s (TV b L k) rfl (by omega), Option.bind_some, hD.2.2.2.1 _ (by omega), hW, if_pos (by decide), g1, zbd_some]
  · obtain ⟨s', g1, g2⟩ := refuseS h 3
    rw [fkd_n (by omega)] at g2
    have hlt2 := e1.mpr e
    refine ⟨s', ?_, g2⟩
    have e53 : f_X3_takePerson_53 s = some (-1, s') := by rw [f_X3_takePerson_53, g1, zbd_some]
    rw [f_X3_takePerson, tok7 h, Option.bind_some, e2 e, if_pos (nI_lt (by rw [← e2 e]; exact hlt2) (by omega)), has7 hD hX (by rw [← e2 e]; exact hlt2)]
    by_cases hx : TV b L k < X.1
    · rw [if_pos hx, zbd_some, if_neg (by decide)]
      by_cases hv : v = nI (TV b L k)
      · rw [if_pos hv.symm, e53]
      · rw [if_neg (fun z => hv z.symm), rd_36 s (TV b L k) rfl (by omega), Option.bind_some, hD.2.2.2.1 _ (by omega)]
        have hW : ¬ X.2.2.1 (TV b L k) = -1 := by
          rcases hc with q | q | q
          · omega
          · exact absurd q hv
          · exact q.2
        obtain ⟨q, q1, q2⟩ := W_c hX hx hW
        rw [q2, if_neg (nI_pos (by omega)), e53]
    · rw [if_neg hx, zbd_some, if_pos rfl, e53]
theorem isWith8 (hD : DR1 s ln X) (hX : DX X m) {x : Nat} (hx : x < 1000) : f_X8_isWithSome (nI x) s = some (if x < X.1 ∧ ¬ X.2.2.1 x = -1 then 1 else 0, s) := by
  have hn := hX.1
  unfold f_X8_isWithSome f_X8_isWithSome_27 f_X8_isWithSome_28
  rw [rd_80 s (x := 1) 1 rfl (by decide), Option.bind_some, hD.1]
  by_cases h : x < X.1
  · rw [if_neg (nI_ge h (by omega)), rd_80 s (22 + x) (nI_add _ _) (by omega), Option.bind_some, hD.2.2.2.2.1 x (by omega)]
    by_cases hW : X.2.2.1 x = -1
    · rw [if_pos hW, if_pos (Or.inl rfl), if_neg (fun z => z.2 hW)]
    · rw [if_neg hW, if_pos (Or.inr rfl), if_pos ⟨h, hW⟩]
  · rw [if_pos (nI_le (by omega) (by omega)), if_pos (Or.inl rfl), if_neg (fun z => h z.1)]
theorem e76_dead {v : Int32} (h : ¬ s.1 76 11 = 0) : f_X8_readEngaged_76 v s = some ((), s) := by
  rw [f_X8_readEngaged_76, rd_80 s (x := 1) 1 rfl (by decide), Option.bind_some, takes_dead h, zbd_some, if_neg h]
theorem e29_bad {r : Int32} (hT : f_X8_takes 0 (s.1 80 1 - 1) s = some (r, t)) (h : ¬ t.1 76 11 = 0) : f_X8_readEngaged_29 s = some ((), t) := by
  rw [f_X8_readEngaged_29, rd_80 s (x := 1) 1 rfl (by decide), Option.bind_some, hT, zbd_some, dead_is h, zbd_some, if_pos rfl, e76_dead h]
theorem e76_bad {r v : Int32} (hT : f_X8_takes 0 (s.1 80 1 - 1) s = some (r, t)) (h : ¬ t.1 76 11 = 0) : f_X8_readEngaged_76 v s = some ((), t) := by
  rw [f_X8_readEngaged_76, rd_80 s (x := 1) 1 rfl (by decide), Option.bind_some, hT, zbd_some, if_neg h]
def rl122 (w0 : Int32) (s : zS) : Option (Int32 × zS) := if w0 = 0 ∨ w0 = 1 then some (w0, s) else none
theorem line_engaged (hTN : TN b L N) (hk : k ≤ N) (hK : TK b L k = 2) (hX : DX X m) : LNB f_X3_readLine f_X8_readLine (fun s => DCx s ln X) (fun s => DR s ln X) b L N k m ln := by
  have hkN := TK_N hTN hk (by omega)
  have hn := hX.1
  have e1 : nI (TC b L k) = nI 1201 ↔ TK b L k = 1 := tcE hTN hk (by decide) (by decide) rfl
  have e2 : nI (TC b L k) = nI 1202 ↔ TK b L k = 2 := tcE hTN hk (by decide) (by decide) rfl
  have n1 : ¬ nI (TC b L k) = nI 1201 := fun z => by have := e1.mp z; omega
  have hV : ∀ q, q ≤ N → TK b L q = 23 → TV b L q < 1000 := fun q hq e => (TK_r hTN (TK_N hTN hq (by omega))).2 e
  have cC : ∀ s, CT s b L N k m → ∃ s1, CS s s1 b L N (k + 1) m [] ∧ f_X3_readLine s = zbd (f_X3_readEngaged s1) fun r4 s5 => rl122 r4 s5 := fun s hC => by
    obtain ⟨s1, g1, g2⟩ := stepS hC hkN
    refine ⟨s1, g2, ?_⟩
    rw [f_X3_readLine, tok7 hC, Option.bind_some, if_pos n1, f_X3_readLine_35, if_neg n1, if_pos (e2.mpr hK), f_X3_readLine_69, g1, zbd_some, if_pos n1, if_neg (fun z => z (e2.mpr hK))]; rfl
  have cR : ∀ s, RT s b L N k m → ∃ s1, RS s s1 b L N (k + 1) m [] ∧ f_X8_readLine s = zbd (zbd (f_X8_is (nI 23) s1) fun r15 s16 => if r15 = 0 then (f_X8_readEngaged_29 s16) else zbd (f_X8_isWithSome (s16.1 76 10) s16) fun r17 s18 => if r17 = 0 then (f_X8_readEngaged_29 s18) else zbd (f_X8_fails (nI 3) s18) fun _ s19 => f_X8_readEngaged_29 s19) fun _ s11 => some ((), s11) := fun s hR => by
    obtain ⟨s1, g1, g2⟩ := nextS hR hkN
    refine ⟨s1, g2, ?_⟩
    rw [f_X8_readLine, if_pos hR.2.2.2.2.2.2.2.1, show (1 : Int32) = nI 1 from rfl, is8 hR (by decide), if_neg (by omega), zbd_some, if_pos rfl, is8 hR (by decide), if_pos hK, zbd_some, if_neg (by decide), f_X8_readEngaged, g1, zbd_some]; rfl
  by_cases h23 : TK b L (k + 1) = 23
  · have hx1 := hV _ (by omega) h23
    by_cases hok : TV b L (k + 1) < X.1 ∧ X.2.2.1 (TV b L (k + 1)) = -1
    · have hkN1 := TK_N hTN (show k + 1 ≤ N by omega) (by omega)
      -- the first one
      have dC : ∀ s, CT s b L N k m → DCx s ln X → ∃ s1, CT s1 b L N (k + 2) m ∧ DCx s1 ln X ∧ CF2 s s1 ∧ f_X3_readLine s = zbd (zbd (f_X3_takePerson (nI (TV b L (k + 1))) s1) fun r5 s6 => f_X3_readEngaged_19 (nI (TV b L (k + 1))) r5 s6) fun r4 s5 => rl122 r4 s5 := fun s hC hD => by
        obtain ⟨s1, g1, g2⟩ := cC s hC
        have hD1 := hD.st hX g1
        have hC1 : CT s1 b L N (k + 1) m := g1.1
        obtain ⟨s2, t1, t2⟩ := (person7 hC1 hD1 hX (-1)).2.1 h23 hok.1 (fun z => ne_m1 (by omega) z.symm) hok.2
        refine ⟨s2, t2.1, hD1.st hX t2, g1.2.2.2.c2.tr t2.2.2.2.c2, ?_⟩
        rw [g2, f_X3_readEngaged, t1, zbd_some, if_pos (show (0 : Int32) ≤ nI (TV b L (k + 1)) from nI_le (Nat.zero_le _) (by omega))]
      have dR : ∀ s, RT s b L N k m → DR s ln X → ∃ s1, RT s1 b L N (k + 2) m ∧ DR s1 ln X ∧ RF2 s s1 ∧ f_X8_readLine s = zbd (zbd (f_X8_is (nI 23) s1) fun r10 s11 => if r10 = 0 then (f_X8_readEngaged_76 (nI (TV b L (k + 1))) s11) else if (s11.1 76 10) = nI (TV b L (k + 1)) then (f_X8_readEngaged_71 (nI (TV b L (k + 1))) s11) else zbd (f_X8_isWithSome (s11.1 76 10) s11) fun r12 s13 => if r12 = 0 then (f_X8_readEngaged_76 (nI (TV b L (k + 1))) s13) else f_X8_readEngaged_71 (nI (TV b L (k + 1))) s13) fun _ s11 => some ((), s11) := fun s hR hD => by
        obtain ⟨s1, g1, g2⟩ := cR s hR
        have hD1 := hD.st hX g1
        have hR1 : RT s1 b L N (k + 1) m := g1.1
        obtain ⟨s2, t1, t2⟩ := (takes8 hR1 (z := X.1) (by omega) (v2 := s1.1 80 1 - 1) (by rw [hD1.1.1])).1 h23 hok.1
        refine ⟨s2, t2.1, hD1.st hX t2, g1.2.2.2.r2.tr t2.2.2.2.r2, ?_⟩
        rw [g2, is8 hR1 (by decide), if_pos h23, zbd_some, if_neg (by decide), hR1.2.2.2.2.2.2.1 h23, isWith8 hD1.1 hX hx1, if_neg (fun z => z.2 hok.2), zbd_some, if_pos rfl, f_X8_readEngaged_29, rd_80 s1 (x := 1) 1 rfl (by decide), Option.bind_some, t1, zbd_some]
      by_cases h24 : TK b L (k + 2) = 23
      · have hx2 := hV _ (by omega) h24
        by_cases hok2 : TV b L (k + 2) < X.1 ∧ ¬ TV b L (k + 1) = TV b L (k + 2) ∧ X.2.2.1 (TV b L (k + 2)) = -1
        · -- both
          have hkN2 := TK_N hTN (show k + 2 ≤ N by omega) (by omega)
          refine Or.inr ⟨k + 3, m, (X.1, X.2.1, fun q => if q = TV b L (k + 2) then nI (TV b L (k + 1)) else if q = TV b L (k + 1) then nI (TV b L (k + 2)) else X.2.2.1 q, X.2.2.2), by omega, by omega, ⟨hX.1, hX.2.1, fun p hp => ?_, fun p hp hp7 => ?_, hX.2.2.2.2⟩, fun s hC hD => ?_, fun s hR hD => ?_⟩
          · dsimp only
            by_cases p2 : p = TV b L (k + 2)
            · refine Or.inr ⟨TV b L (k + 1), hok.1, fun z => hok2.2.1 (z.trans p2), by rw [if_pos p2], ?_⟩
              rw [if_neg hok2.2.1, if_pos rfl, p2]
            · by_cases p1 : p = TV b L (k + 1)
              · refine Or.inr ⟨TV b L (k + 2), hok2.1, fun z => p2 z.symm, by rw [if_neg p2, if_pos p1], ?_⟩
                rw [if_pos rfl, p1]
              · rw [if_neg p2, if_neg p1]
                rcases hX.2.2.1 p hp with q | ⟨q, q1, q2, q3, q4⟩
                · exact Or.inl q
                · refine Or.inr ⟨q, q1, q2, q3, ?_⟩
                  rw [if_neg (fun z => by
                    rw [z, hok2.2.2] at q4
                    exact ne_m1 (by omega) q4.symm), if_neg (fun z => by
                    rw [z, hok.2] at q4
                    exact ne_m1 (by omega) q4.symm)]
                  exact q4
          · dsimp only
            dsimp only at hp
            rw [if_neg (by omega), if_neg (by omega)]
            exact hX.2.2.2.1 p hp hp7
          · obtain ⟨s1, hC1, hD1, hF, g2⟩ := dC s hC hD
            obtain ⟨s2, t1, t2⟩ := (person7 hC1 hD1 hX (nI (TV b L (k + 1)))).2.1 h24 hok2.1 (ne_of_nI hok2.2.1 (by omega) (by omega)) hok2.2.2
            obtain ⟨d1, d2, d3, d4, d5⟩ := hD1.st hX t2
            have hC2 : CT s2 b L N (k + 3) m := t2.1
            refine ⟨zs_i (zs_i s2 36 (TV b L (k + 1)) (nI (TV b L (k + 2)))) 36 (TV b L (k + 2)) (nI (TV b L (k + 1))), ?_, CT.in (by omega) (CT.in (by omega) hC2), ⟨d1, d2, fun f p hf hp => ?_, fun p hp => ?_, d5⟩, (((hF.tr t2.2.2.2.c2).i (by decide)).i (by decide))⟩
            · rw [g2, t1, zbd_some, f_X3_readEngaged_19, if_pos (show (0 : Int32) ≤ nI (TV b L (k + 2)) from nI_le (Nat.zero_le _) (by omega)), wr_36 s2 (TV b L (k + 1)) rfl (by omega), Option.bind_some, wr_36 _ (TV b L (k + 2)) rfl (by omega), Option.bind_some, zbd_some]; rfl
            · rw [zs_i_n _ _ _ _ _ (by omega), zs_i_n _ _ _ _ _ (by omega)]; exact d3 f p hf hp
            · dsimp only
              by_cases p2 : p = TV b L (k + 2)
              · rw [if_pos p2, p2]; exact zs_i_v _ _ _ _
              · rw [if_neg p2, zs_i_o _ _ _ _ _ p2]
                by_cases p1 : p = TV b L (k + 1)
                · rw [if_pos p1, p1]; exact zs_i_v _ _ _ _
                · rw [if_neg p1, zs_i_o _ _ _ _ _ p1]; exact d4 p hp
          · obtain ⟨s1, hR1, hD1, hF, g2⟩ := dR s hR hD
            obtain ⟨s2, t1, t2⟩ := (takes8 hR1 (z := X.1) (by omega) (v2 := s1.1 80 1 - 1) (by rw [hD1.1.1])).1 h24 hok2.1
            obtain ⟨⟨d1, d2, d3, d4, d5, d6⟩, dz⟩ := hD1.st hX t2
            have hR2 : RT s2 b L N (k + 3) m := t2.1
            refine ⟨zs_i (zs_i s2 80 (22 + TV b L (k + 1)) (nI (TV b L (k + 2)))) 80 (22 + TV b L (k + 2)) (nI (TV b L (k + 1))), ?_, RT.i80 (by omega) (RT.i80 (by omega) hR2), ⟨⟨?_, ?_, ?_, fun f p hf hp => ?_, fun p hp => ?_, fun q hq => ?_⟩, fun f p hf hnp hp => ?_⟩, (hF.tr t2.2.2.2.r2).i.i⟩
            · rw [g2, is8 hR1 (by decide), if_pos h24, zbd_some, if_neg (by decide), hR1.2.2.2.2.2.2.1 h24, if_neg (ne_of_nI (fun z => hok2.2.1 z.symm) (by omega) (by omega)), isWith8 hD1.1 hX hx2, if_neg (fun z => z.2 hok2.2.2), zbd_some, if_pos rfl, f_X8_readEngaged_76, rd_80 s1 (x := 1) 1 rfl (by decide), Option.bind_some, t1, zbd_some, if_pos t2.1.2.2.2.2.2.2.2.1, wr_80 s2 (22 + TV b L (k + 1)) (nI_add _ _) (by omega), Option.bind_some, wr_80 _ (22 + TV b L (k + 2)) (nI_add _ _) (by omega), Option.bind_some, zbd_some]
            · rw [zs_i_o _ _ _ _ _ (by omega), zs_i_o _ _ _ _ _ (by omega)]; exact d1
            · rw [zs_i_o _ _ _ _ _ (by omega), zs_i_o _ _ _ _ _ (by omega)]; exact d2
            · rw [zs_i_o _ _ _ _ _ (by omega), zs_i_o _ _ _ _ _ (by omega)]; exact d3
            · have hp : p < X.1 := hp
              have := rbs_r (f := f) p hf (by omega)
              rw [zs_i_o _ _ _ _ _ (by omega), zs_i_o _ _ _ _ _ (by omega)]; exact d4 f p hf hp
            · dsimp only
              by_cases p2 : p = TV b L (k + 2)
              · rw [if_pos p2, p2]; exact zs_i_v _ _ _ _
              · rw [if_neg p2, zs_i_o _ _ _ _ _ (by omega)]
                by_cases p1 : p = TV b L (k + 1)
                · rw [if_pos p1, p1]; exact zs_i_v _ _ _ _
                · rw [if_neg p1, zs_i_o _ _ _ _ _ (by omega)]; exact d5 p hp
            · refine ⟨fun z => ?_, fun z => ?_⟩
              · rw [zs_i_o _ _ _ _ _ (by omega), zs_i_o _ _ _ _ _ (by omega)]; exact (d6 q hq).1 z
              · obtain ⟨a1, a2, a3, a4⟩ := (d6 q hq).2 z
                refine ⟨?_, ?_, ?_, fun i hi => ?_⟩
                · rw [zs_i_o _ _ _ _ _ (by omega), zs_i_o _ _ _ _ _ (by omega)]; exact a1
                · rw [zs_i_o _ _ _ _ _ (by omega), zs_i_o _ _ _ _ _ (by omega)]; exact a2
                · rw [zs_i_o _ _ _ _ _ (by omega), zs_i_o _ _ _ _ _ (by omega)]; exact a3
                · rw [zs_i_o _ _ _ _ _ (by omega), zs_i_o _ _ _ _ _ (by omega)]; exact a4 i hi
            · have := rbs_r (f := f) p (by omega) hp
              rw [zs_i_o _ _ _ _ _ (by omega), zs_i_o _ _ _ _ _ (by omega)]; exact dz f p hf hnp hp
        · -- the second can't
          refine Or.inl ⟨3, k + 2, by decide, by decide, by omega, fun s hC hD => ?_, fun s hR hD => ?_⟩
          · obtain ⟨s1, hC1, hD1, hF, g2⟩ := dC s hC hD
            obtain ⟨s2, t1, t2⟩ := (person7 hC1 hD1 hX (nI (TV b L (k + 1)))).2.2 h24 (by
              by_cases a1 : TV b L (k + 2) < X.1
              · by_cases a2 : TV b L (k + 1) = TV b L (k + 2)
                · exact Or.inr (Or.inl (by rw [a2]))
                · exact Or.inr (Or.inr ⟨a1, fun z => hok2 ⟨a1, a2, z⟩⟩)
              · exact Or.inl (by omega))
            refine ⟨s2, ?_, CB2.pre hF t2.c2⟩
            rw [g2, t1, zbd_some, f_X3_readEngaged_19, if_neg (by decide), zbd_some]; rfl
          · obtain ⟨s1, hR1, hD1, hF, g2⟩ := dR s hR hD
            have e71 : ∃ s2, f_X8_readEngaged_71 (nI (TV b L (k + 1))) s1 = some ((), s2) ∧ RB s1 s2 b L 3 (k + 2) := by
              obtain ⟨s2, t1, t2⟩ := failsS hR1 3
              rw [fkd_n (by omega)] at t2
              exact ⟨s2, by rw [f_X8_readEngaged_71, t1, zbd_some, e76_dead (t2.dead (by decide) (by decide))], t2⟩
            rw [g2, is8 hR1 (by decide), if_pos h24, zbd_some, if_neg (by decide), hR1.2.2.2.2.2.2.1 h24]
            by_cases a2 : TV b L (k + 1) = TV b L (k + 2)
            · obtain ⟨s2, t1, t2⟩ := e71
              refine ⟨s2, ?_, RB2.pre hF t2.r2⟩
              rw [if_pos (by rw [a2]), t1, zbd_some]
            · rw [if_neg (ne_of_nI (fun z => a2 z.symm) (by omega) (by omega)), isWith8 hD1.1 hX hx2]
              by_cases a1 : TV b L (k + 2) < X.1
              · obtain ⟨s2, t1, t2⟩ := e71
                refine ⟨s2, ?_, RB2.pre hF t2.r2⟩
                rw [if_pos ⟨a1, fun z => hok2 ⟨a1, a2, z⟩⟩, zbd_some, if_neg (by decide), t1, zbd_some]
              · obtain ⟨r, s2, t1, t2⟩ := (takes8 hR1 (z := X.1) (by omega) (v2 := s1.1 80 1 - 1) (by rw [hD1.1.1])).2.1 h24 (by omega)
                refine ⟨s2, ?_, RB2.pre hF t2.r2⟩
                rw [if_neg (fun z => a1 z.1), zbd_some, if_pos rfl, e76_bad t1 (t2.dead (by decide) (by decide)), zbd_some]
      · have hf := fkd_r (b := b) (L := L) (k := k + 2) (v := 2) (by decide) (by decide)
        refine Or.inl ⟨fkd b L (k + 2) 2, k + 2, hf.1, hf.2, by omega, fun s hC hD => ?_, fun s hR hD => ?_⟩
        · obtain ⟨s1, hC1, hD1, hF, g2⟩ := dC s hC hD
          obtain ⟨s2, t1, t2⟩ := (person7 hC1 hD1 hX (nI (TV b L (k + 1)))).1 h24
          refine ⟨s2, ?_, CB2.pre hF t2.c2⟩
          rw [g2, t1, zbd_some, f_X3_readEngaged_19, if_neg (by decide), zbd_some]; rfl
        · obtain ⟨s1, hR1, hD1, hF, g2⟩ := dR s hR hD
          obtain ⟨r, s2, t1, t2⟩ := (takes8 hR1 (z := X.1) (by omega) (v2 := s1.1 80 1 - 1) (by rw [hD1.1.1])).2.2 h24
          refine ⟨s2, ?_, RB2.pre hF t2.r2⟩
          rw [g2, is8 hR1 (by decide), if_neg h24, zbd_some, if_pos rfl, e76_bad t1 (t2.dead hf.1 hf.2), zbd_some]
    · refine Or.inl ⟨3, k + 1, by decide, by decide, by omega, fun s hC hD => ?_, fun s hR hD => ?_⟩
      · obtain ⟨s1, g1, g2⟩ := cC s hC
        have hD1 := hD.st hX g1
        have hC1 : CT s1 b L N (k + 1) m := g1.1
        obtain ⟨s2, t1, t2⟩ := (person7 hC1 hD1 hX (-1)).2.2 h23 (by
          by_cases a1 : TV b L (k + 1) < X.1
          · exact Or.inr (Or.inr ⟨a1, fun z => hok ⟨a1, z⟩⟩)
          · exact Or.inl (by omega))
        refine ⟨s2, ?_, CB2.pre g1.2.2.2.c2 t2.c2⟩
        rw [g2, f_X3_readEngaged, t1, zbd_some, if_neg (by decide), f_X3_readEngaged_19, if_neg (by decide), zbd_some]; rfl
      · obtain ⟨s1, g1, g2⟩ := cR s hR
        have hD1 := hD.st hX g1
        have hR1 : RT s1 b L N (k + 1) m := g1.1
        rw [g2, is8 hR1 (by decide), if_pos h23, zbd_some, if_neg (by decide), hR1.2.2.2.2.2.2.1 h23, isWith8 hD1.1 hX hx1]
        by_cases a1 : TV b L (k + 1) < X.1
        · obtain ⟨s2, t1, t2⟩ := failsS hR1 3
          rw [fkd_n (by omega)] at t2
          have hdd := t2.dead (by decide) (by decide)
          refine ⟨s2, ?_, RB2.pre g1.2.2.2.r2 t2.r2⟩
          rw [if_pos ⟨a1, fun z => hok ⟨a1, z⟩⟩, zbd_some, if_neg (by decide), t1, zbd_some, e29_bad (takes_dead hdd) hdd, zbd_some]
        · obtain ⟨r, s2, t1, t2⟩ := (takes8 hR1 (z := X.1) (by omega) (v2 := s1.1 80 1 - 1) (by rw [hD1.1.1])).2.1 h23 (by omega)
          refine ⟨s2, ?_, RB2.pre g1.2.2.2.r2 t2.r2⟩
          rw [if_neg (fun z => a1 z.1), zbd_some, if_pos rfl, e29_bad t1 (t2.dead (by decide) (by decide)), zbd_some]
  · have hf := fkd_r (b := b) (L := L) (k := k + 1) (v := 2) (by decide) (by decide)
    refine Or.inl ⟨fkd b L (k + 1) 2, k + 1, hf.1, hf.2, by omega, fun s hC hD => ?_, fun s hR hD => ?_⟩
    · obtain ⟨s1, g1, g2⟩ := cC s hC
      have hD1 := hD.st hX g1
      have hC1 : CT s1 b L N (k + 1) m := g1.1
      obtain ⟨s2, t1, t2⟩ := (person7 hC1 hD1 hX (-1)).1 h23
      refine ⟨s2, ?_, CB2.pre g1.2.2.2.c2 t2.c2⟩
      rw [g2, f_X3_readEngaged, t1, zbd_some, if_neg (by decide), f_X3_readEngaged_19, if_neg (by decide), zbd_some]; rfl
    · obtain ⟨s1, g1, g2⟩ := cR s hR
      have hD1 := hD.st hX g1
      have hR1 : RT s1 b L N (k + 1) m := g1.1
      obtain ⟨r, s2, t1, t2⟩ := (takes8 hR1 (z := X.1) (by omega) (v2 := s1.1 80 1 - 1) (by rw [hD1.1.1])).2.2 h23
      refine ⟨s2, ?_, RB2.pre g1.2.2.2.r2 t2.r2⟩
      rw [g2, is8 hR1 (by decide), if_neg h23, zbd_some, if_pos rfl, e29_bad t1 (t2.dead hf.1 hf.2), zbd_some]
end ENGLINE
