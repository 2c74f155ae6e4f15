section UNIT
variable {b : Nat → Nat} {L N k k1 k2 m w kd j p : Nat} {s t u : zS} {cs ds : List Nat}
theorem BOTH.mono {F : zS → Option (Int32 × zS)} {G : zS → Option (Unit × zS)} {h h2 : Nat} {y : Bool} (hB : BOTH F G b L N k w h y) (hh : h ≤ h2) : BOTH F G b L N k w h2 y := by
  rcases hB with q | ⟨k2, cs, o1, o2, o3, o4, oC, oR⟩
  · exact Or.inl q
  · exact Or.inr ⟨k2, cs, o1, o2, o3, fun st hst => o4 st (by omega), oC, oR⟩
theorem ty_n (st : List Bool) : zty w [3006] (true :: st) = some (true :: st) := by
  rw [zty, if_neg (by
      intro z
      have := zword_cases z
      omega), if_pos rfl]
  rfl
theorem ty_c {c : Nat} (hc : c = 3003 ∨ c = 3004 ∨ c = 3005) (st : List Bool) : zty w [c] (false :: false :: st) = some (true :: st) := by
  rw [zty, if_neg (by
      intro z
      have := zword_cases z
      omega), if_neg (by omega), if_neg (by omega), if_pos hc]
  rfl
theorem ty_b {c : Nat} (hc : c = 3007 ∨ c = 3008) (st : List Bool) : zty w [c] (true :: true :: st) = some (true :: st) := by
  rw [zty, if_neg (by
      intro z
      have := zword_cases z
      omega), if_neg (by omega), if_neg (by omega), if_neg (by omega), if_pos hc]
  rfl
theorem rsum_dead (v : Int32) (h : ¬ s.1 76 11 = 0) : f_X8_readSum zDP v s = some ((), s) := expr_dead (f8 := zDP) (by decide) v s h
theorem u151_dead (qt qu : Int32 → zS → Option (Unit × zS)) (v c : Int32) (h : ¬ s.1 76 11 = 0) : f_X8_readUnit_151 qt qu v c s = some ((), s) := by
  rw [f_X8_readUnit_151, rsum_dead v h, zbd_some, dead_codes h, zbd_some]
theorem u111_dead (qt qu : Int32 → zS → Option (Unit × zS)) (v c : Int32) (h : ¬ s.1 76 11 = 0) : f_X8_readUnit_111 qt qu v c s = some ((), s) := by
  rw [f_X8_readUnit_111, dead_is h, zbd_some, if_neg (fun z => z rfl), dead_is h, zbd_some, if_neg (fun z => z rfl), dead_is h, zbd_some, if_pos rfl, dead_fails h, zbd_some, u151_dead qt qu v c h]
theorem unit_dead (qt qu : Int32 → zS → Option (Unit × zS)) (v : Int32) : DEAD (g_X8_readUnit qt qu v) := fun s h => by
  rw [g_X8_readUnit, dead_is h, zbd_some, if_pos rfl, dead_is h, zbd_some, if_pos rfl, rsum_dead v h, zbd_some, dead_is h, zbd_some, if_pos rfl, dead_is h, zbd_some, if_pos rfl, u111_dead qt qu v _ h]
theorem unit_both (hTN : TN b L N) {d h hs : Nat} (hd : d ≤ 6) (hh : hs + 1 ≤ h) {qt7 qu7 : Int32 → zS → Option (Int32 × zS)} {qt8 qu8 : Int32 → zS → Option (Unit × zS)} (hE : ∀ k, k ≤ N → BOTH (f_X3_readSum zDP (nI d)) (f_X8_readSum zDP (nI d)) b L N k w hs false) (hT : d < 6 → ∀ k, k ≤ N → BOTH (qt7 (nI (d + 1))) (qt8 (nI (d + 1))) b L N k w h true) (hU : d < 6 → ∀ k, k ≤ N → BOTH (qu7 (nI (d + 1))) (qu8 (nI (d + 1))) b L N k w h true) (hk : k ≤ N) : BOTH (g_X3_readUnit qt7 qu7 (nI d)) (g_X8_readUnit qt8 qu8 (nI d)) b L N k w h true := by
  have e16 : nI (TC b L k) = nI 1209 ↔ TK b L k = 16 := tcE hTN hk (by decide) (by decide) rfl
  have e37 : nI (TC b L k) = nI 1107 ↔ TK b L k = 37 := tcE hTN hk (by decide) (by decide) rfl
  by_cases h16 : TK b L k = 16
  · have hkN := TK_N hTN hk (by omega)
    have cC : ∀ s m, CT s b L N k m → g_X3_readUnit qt7 qu7 (nI d) s = f_X3_readUnit_24 qt7 qu7 (nI d) (nI 1209) s := fun s m hC => by
      rw [g_X3_readUnit, tok7 hC, Option.bind_some, if_pos (e16.mpr h16), e16.mpr h16]
    have cR : ∀ s m, RT s b L N k m → g_X8_readUnit qt8 qu8 (nI d) s = zbd (f_X8_goesIn (nI d) s) fun r26 s27 => if ¬ r26 = 0 then (zbd (qu8 (nI d + (1 : Int32)) s27) fun _ s28 => zbd (f_X8_codes (nI 3006) s28) fun _ s29 => some ((), s29)) else some ((), s27) := fun s m hR => by
      rw [g_X8_readUnit, is8 hR (by decide), if_pos h16, zbd_some, if_neg (by decide)]
    by_cases hd6 : d = 6
    · refine Or.inl ⟨4, k, by decide, by decide, hk, fun s m hC h6 => ?_, fun s m hR h15 => ?_⟩
      · obtain ⟨s', g1, g2⟩ := refuseS hC 4
        rw [fkd_n (by omega)] at g2
        refine ⟨s', ?_, g2⟩
        rw [cC s m hC, f_X3_readUnit_24, if_neg (nI_nlt (by omega) (by omega)), g1, zbd_some, if_pos (Or.inl rfl)]
      · obtain ⟨s', g1, g2⟩ := (goesS hR hkN hd).1 hd6
        rw [fkd_n (by omega)] at g2
        refine ⟨s', ?_, g2⟩
        rw [cR s m hR, g1, zbd_some, if_neg (fun z => z rfl)]
    · have hlt : d < 6 := by omega
      have dC : ∀ s m, CT s b L N k m → ∃ s1, CS s s1 b L N (k + 1) m [] ∧ g_X3_readUnit qt7 qu7 (nI d) s = zbd (qu7 (nI (d + 1)) s1) fun r2 s3 => if ¬ r2 = 0 then (zbd (f_X3_emit (nI 1209) s3) fun _ s4 => some ((1 : Int32), s4)) else some ((0 : Int32), s3) := fun s m hC => by
        obtain ⟨s1, g1, g2⟩ := stepS hC hkN
        refine ⟨s1, g2, ?_⟩
        rw [cC s m hC, f_X3_readUnit_24, if_pos (nI_lt (by omega) (by omega)), g1, zbd_some, if_pos (by decide), nI_1]
      have dR : ∀ s m, RT s b L N k m → ∃ s1, RS s s1 b L N (k + 1) m [] ∧ g_X8_readUnit qt8 qu8 (nI d) s = zbd (qu8 (nI (d + 1)) s1) fun _ s28 => zbd (f_X8_codes (nI 3006) s28) fun _ s29 => some ((), s29) := fun s m hR => by
        obtain ⟨s1, g1, g2⟩ := (goesS hR hkN hd).2 hlt
        refine ⟨s1, g2, ?_⟩
        rw [cR s m hR, g1, zbd_some, if_pos (by decide), nI_1]
      rcases hU hlt (k + 1) (by omega) with ⟨kd, j, b1, b2, b3, bC, bR⟩ | ⟨k2, cs, o1, o2, o3, o4, oC, oR⟩
      · refine Or.inl ⟨kd, j, b1, b2, b3, fun s m hC h6 => ?_, fun s m hR h15 => ?_⟩
        · obtain ⟨s1, g1, g2⟩ := dC s m hC
          obtain ⟨s2, q1, q2⟩ := bC s1 _ g1.1 (g1.ww h6)
          refine ⟨s2, ?_, g1.bad q2⟩
          rw [g2, q1, zbd_some, if_neg (fun z => z rfl)]
        · obtain ⟨s1, g1, g2⟩ := dR s m hR
          obtain ⟨s2, q1, q2⟩ := bR s1 _ g1.1 (g1.ww h15)
          have hdd := RB.dead q2 b1 b2
          refine ⟨s2, ?_, g1.bad q2⟩
          rw [g2, q1, zbd_some, dead_codes hdd, zbd_some]
      · refine Or.inr ⟨k2, cs ++ [3006], by omega, o2, by rw [List.length_append]; show _ + 1 ≤ _; omega, fun st hst => ?_, fun s m hC h6 => ?_, fun s m hR h15 => ?_⟩
        · rw [zty_append, o4 st hst, Option.bind_some, ty_n]
        · have hmk := hC.2.2.2.2.2.2
          obtain ⟨s1, g1, g2⟩ := dC s m hC
          obtain ⟨s2, q1, q2⟩ := oC s1 _ g1.1 (g1.ww h6)
          have q3 := CS.tr g1 q2
          obtain ⟨s3, t1, t2⟩ := emitS (c := 3006) (x := nI 1209) q3.1 (by rw [List.nil_append]; omega) rfl
          refine ⟨s3, ?_, q3.tr t2⟩
          rw [g2, q1, zbd_some, if_pos (by decide), t1, zbd_some]
        · have hmk := hR.2.2.2.2.2.2.2.2.2
          obtain ⟨s1, g1, g2⟩ := dR s m hR
          obtain ⟨s2, q1, q2⟩ := oR s1 _ g1.1 (g1.ww h15)
          have q3 := RS.tr g1 q2
          obtain ⟨s3, t1, t2⟩ := codesS (c := 3006) (x := nI 3006) q3.1 (by rw [List.nil_append]; omega) rfl
          refine ⟨s3, ?_, q3.tr t2⟩
          rw [g2, q1, zbd_some, t1, zbd_some]
  · by_cases h37 : TK b L k = 37
    · have hkN := TK_N hTN hk (by omega)
      have cC : ∀ s m, CT s b L N k m → g_X3_readUnit qt7 qu7 (nI d) s = f_X3_readUnit_24 qt7 qu7 (nI d) (nI 1107) s := fun s m hC => by
        rw [g_X3_readUnit, tok7 hC, Option.bind_some, if_neg (fun z => h16 (e16.mp z)), if_neg (fun z => z (e37.mpr h37)), e37.mpr h37]
      have cR : ∀ s m, RT s b L N k m → g_X8_readUnit qt8 qu8 (nI d) s = zbd (f_X8_goesIn (nI d) s) fun r20 s21 => if ¬ r20 = 0 then (zbd (qt8 (nI d + (1 : Int32)) s21) fun _ s22 => zbd (f_X8_eats (nI 38) s22) fun r23 s24 => if ¬ r23 = 0 then (f_X8_readUnit_72 qt8 qu8 s24) else zbd (f_X8_fails (nI 2) s24) fun _ s25 => f_X8_readUnit_72 qt8 qu8 s25) else some ((), s21) := fun s m hR => by
        rw [g_X8_readUnit, is8 hR (by decide), if_neg h16, zbd_some, if_pos rfl, is8 hR (by decide), if_pos h37, zbd_some, if_neg (by decide)]
      by_cases hd6 : d = 6
      · refine Or.inl ⟨4, k, by decide, by decide, hk, fun s m hC h6 => ?_, fun s m hR h15 => ?_⟩
        · obtain ⟨s', g1, g2⟩ := refuseS hC 4
          rw [fkd_n (by omega)] at g2
          refine ⟨s', ?_, g2⟩
          rw [cC s m hC, f_X3_readUnit_24, if_neg (nI_nlt (by omega) (by omega)), g1, zbd_some, if_pos (Or.inl rfl)]
        · obtain ⟨s', g1, g2⟩ := (goesS hR hkN hd).1 hd6
          rw [fkd_n (by omega)] at g2
          refine ⟨s', ?_, g2⟩
          rw [cR s m hR, g1, zbd_some, if_neg (fun z => z rfl)]
      · have hlt : d < 6 := by omega
        have dC : ∀ s m, CT s b L N k m → ∃ s1, CS s s1 b L N (k + 1) m [] ∧ g_X3_readUnit qt7 qu7 (nI d) s = zbd (qt7 (nI (d + 1)) s1) fun r5 s6 => if r5 = 0 then (f_X3_readUnit_71 qt7 qu7 s6) else zbd (f_X3_take (nI 1108) s6) fun r7 s8 => if r7 = 0 then (f_X3_readUnit_71 qt7 qu7 s8) else f_X3_readUnit_72 qt7 qu7 (1 : Int32) s8 := fun s m hC => by
          obtain ⟨s1, g1, g2⟩ := stepS hC hkN
          refine ⟨s1, g2, ?_⟩
          rw [cC s m hC, f_X3_readUnit_24, if_pos (nI_lt (by omega) (by omega)), g1, zbd_some, if_neg (fun z => z rfl), nI_1]
        have dR : ∀ s m, RT s b L N k m → ∃ s1, RS s s1 b L N (k + 1) m [] ∧ g_X8_readUnit qt8 qu8 (nI d) s = zbd (qt8 (nI (d + 1)) s1) fun _ s22 => zbd (f_X8_eats (nI 38) s22) fun r23 s24 => if ¬ r23 = 0 then (f_X8_readUnit_72 qt8 qu8 s24) else zbd (f_X8_fails (nI 2) s24) fun _ s25 => f_X8_readUnit_72 qt8 qu8 s25 := fun s m hR => by
          obtain ⟨s1, g1, g2⟩ := (goesS hR hkN hd).2 hlt
          refine ⟨s1, g2, ?_⟩
          rw [cR s m hR, g1, zbd_some, if_pos (by decide), nI_1]
        rcases hT hlt (k + 1) (by omega) with ⟨kd, j, b1, b2, b3, bC, bR⟩ | ⟨k2, cs, o1, o2, o3, o4, oC, oR⟩
        · refine Or.inl ⟨kd, j, b1, b2, b3, fun s m hC h6 => ?_, fun s m hR h15 => ?_⟩
          · obtain ⟨s1, g1, g2⟩ := dC s m hC
            obtain ⟨s2, q1, q2⟩ := bC s1 _ g1.1 (g1.ww h6)
            refine ⟨s2, ?_, g1.bad q2⟩
            rw [g2, q1, zbd_some, if_pos rfl]; rfl
          · obtain ⟨s1, g1, g2⟩ := dR s m hR
            obtain ⟨s2, q1, q2⟩ := bR s1 _ g1.1 (g1.ww h15)
            have hdd := RB.dead q2 b1 b2
            refine ⟨s2, ?_, g1.bad q2⟩
            rw [g2, q1, zbd_some, dead_eats hdd, zbd_some, if_neg (fun z => z rfl), dead_fails hdd, zbd_some]; rfl
        · by_cases h38 : TK b L k2 = 38
          · have hk2 := TK_N hTN o2 (by omega)
            refine Or.inr ⟨k2 + 1, cs, by omega, by omega, by omega, fun st hst => o4 st hst, fun s m hC h6 => ?_, fun s m hR h15 => ?_⟩
            · obtain ⟨s1, g1, g2⟩ := dC s m hC
              obtain ⟨s2, q1, q2⟩ := oC s1 _ g1.1 (g1.ww h6)
              obtain ⟨s3, t1, t2⟩ := (takeS q2.1 (x := 38) (by decide) (by decide) (by decide)).1 h38
              have q3 := (CS.tr g1 q2).tr t2
              rw [List.append_nil] at q3
              refine ⟨s3, ?_, q3⟩
              rw [g2, q1, zbd_some, if_neg (by decide), show nI 1108 = nI (lxK 38 0) from rfl, t1, zbd_some, if_neg (by decide)]; rfl
            · obtain ⟨s1, g1, g2⟩ := dR s m hR
              obtain ⟨s2, q1, q2⟩ := oR s1 _ g1.1 (g1.ww h15)
              obtain ⟨s3, t1, t2⟩ := (eatsS q2.1 (x := 38) (by decide) (by decide)).1 h38
              have q3 := (RS.tr g1 q2).tr t2
              rw [List.append_nil] at q3
              refine ⟨s3, ?_, q3⟩
              rw [g2, q1, zbd_some, t1, zbd_some, if_pos (by decide)]; rfl
          · have hf := fkd_r (b := b) (L := L) (k := k2) (v := 2) (by decide) (by decide)
            refine Or.inl ⟨fkd b L k2 2, k2, hf.1, hf.2, o2, fun s m hC h6 => ?_, fun s m hR h15 => ?_⟩
            · obtain ⟨s1, g1, g2⟩ := dC s m hC
              obtain ⟨s2, q1, q2⟩ := oC s1 _ g1.1 (g1.ww h6)
              obtain ⟨s3, t1, t2⟩ := (takeS q2.1 (x := 38) (by decide) (by decide) (by decide)).2 h38
              refine ⟨s3, ?_, (CS.tr g1 q2).bad t2⟩
              rw [g2, q1, zbd_some, if_neg (by decide), show nI 1108 = nI (lxK 38 0) from rfl, t1, zbd_some, if_pos rfl]; rfl
            · obtain ⟨s1, g1, g2⟩ := dR s m hR
              obtain ⟨s2, q1, q2⟩ := oR s1 _ g1.1 (g1.ww h15)
              have t1 := (eatsS q2.1 (x := 38) (by decide) (by decide)).2 h38
              obtain ⟨s3, t2, t3⟩ := failsS q2.1 2
              refine ⟨s3, ?_, (RS.tr g1 q2).bad t3⟩
              rw [g2, q1, zbd_some, t1, zbd_some, if_neg (fun z => z rfl), t2, zbd_some]; rfl
    · have cC : ∀ s m, CT s b L N k m → g_X3_readUnit qt7 qu7 (nI d) s = zbd (f_X3_readSum zDP (nI d) s) fun r16 s17 => if ¬ r16 = 0 then ((zr_i s17 40 (s17.1 30 5)).bind fun x18 => if x18 = (nI 1109) then (f_X3_readUnit_141 qt7 qu7 (nI d) x18 s17) else if x18 = (nI 1110) then (f_X3_readUnit_141 qt7 qu7 (nI d) x18 s17) else if x18 = (nI 1111) then (f_X3_readUnit_141 qt7 qu7 (nI d) x18 s17) else zbd (f_X3_refuse (nI 2) s17) fun r19 s20 => if r19 = 0 ∨ r19 = 1 then some (r19, s20) else none) else some ((0 : Int32), s17) := fun s m hC => by
        rw [g_X3_readUnit, tok7 hC, Option.bind_some, if_neg (fun z => h16 (e16.mp z)), if_pos (fun z => h37 (e37.mp z))]
      have cR : ∀ s m, RT s b L N k m → g_X8_readUnit qt8 qu8 (nI d) s = zbd (f_X8_readSum zDP (nI d) s) fun _ s15 => zbd (f_X8_is (nI 39) s15) fun r16 s17 => if r16 = 0 then (zbd (f_X8_is (nI 40) s17) fun r18 s19 => if r18 = 0 then (f_X8_readUnit_111 qt8 qu8 (nI d) (nI 3005) s19) else f_X8_readUnit_111 qt8 qu8 (nI d) (nI 3004) s19) else f_X8_readUnit_111 qt8 qu8 (nI d) (nI 3003) s17 := fun s m hR => by
        rw [g_X8_readUnit, is8 hR (by decide), if_neg h16, zbd_some, if_pos rfl, is8 hR (by decide), if_neg h37, zbd_some, if_pos rfl]
      rcases hE k hk with ⟨kd, j, b1, b2, b3, bC, bR⟩ | ⟨k1, c1, o1, o2, o3, o4, oC, oR⟩
      · refine Or.inl ⟨kd, j, b1, b2, b3, fun s m hC h6 => ?_, fun s m hR h15 => ?_⟩
        · obtain ⟨s2, q1, q2⟩ := bC s m hC h6
          refine ⟨s2, ?_, q2⟩
          rw [cC s m hC, q1, zbd_some, if_neg (fun z => z rfl)]
        · obtain ⟨s2, q1, q2⟩ := bR s m hR h15
          have hdd := RB.dead q2 b1 b2
          refine ⟨s2, ?_, q2⟩
          rw [cR s m hR, q1, zbd_some, dead_is hdd, zbd_some, if_pos rfl, dead_is hdd, zbd_some, if_pos rfl, u111_dead qt8 qu8 _ _ hdd]
      · have e39 : nI (TC b L k1) = nI 1109 ↔ TK b L k1 = 39 := tcE hTN o2 (by decide) (by decide) rfl
        have e40 : nI (TC b L k1) = nI 1110 ↔ TK b L k1 = 40 := tcE hTN o2 (by decide) (by decide) rfl
        have e41 : nI (TC b L k1) = nI 1111 ↔ TK b L k1 = 41 := tcE hTN o2 (by decide) (by decide) rfl
        by_cases hcm : TK b L k1 = 39 ∨ TK b L k1 = 40 ∨ TK b L k1 = 41
        · have hkN := TK_N hTN o2 (by omega)
          obtain ⟨p, hp, hp3⟩ : ∃ p, TK b L k1 = 39 + p ∧ p < 3 := ⟨TK b L k1 - 39, by omega, by omega⟩
          have hz : zenc (3003 + p) = 1109 + p := (by decide : ∀ p, p < 3 → zenc (3003 + p) = 1109 + p) p hp3
          have hv3 : nI (TC b L k1) = nI (1109 + p) := by
            rcases (show p = 0 ∨ p = 1 ∨ p = 2 by omega) with q | q | q
            · subst q; exact e39.mpr hp
            · subst q; exact e40.mpr hp
            · subst q; exact e41.mpr hp
          have dC : ∀ s m, CT s b L N k m → s.1 30 6 = nI w → ∃ s1, CS s s1 b L N (k1 + 1) m c1 ∧ g_X3_readUnit qt7 qu7 (nI d) s = zbd (f_X3_readSum zDP (nI d) s1) fun r12 s13 => if ¬ r12 = 0 then (zbd (f_X3_emit (nI (1109 + p)) s13) fun _ s14 => some ((1 : Int32), s14)) else some ((0 : Int32), s13) := fun s m hC h6 => by
            obtain ⟨s1, g1, g2⟩ := oC s m hC h6
            have g2 : CS s s1 b L N k1 m c1 := g2
            obtain ⟨s2, t1, t2⟩ := stepS g2.1 hkN
            have q3 := g2.tr t2
            rw [List.append_nil] at q3
            refine ⟨s2, q3, ?_⟩
            have e141 : f_X3_readUnit_141 qt7 qu7 (nI d) (nI (TC b L k1)) s1 = zbd (f_X3_readSum zDP (nI d) s2) fun r12 s13 => if ¬ r12 = 0 then (zbd (f_X3_emit (nI (1109 + p)) s13) fun _ s14 => some ((1 : Int32), s14)) else some ((0 : Int32), s13) := by
              rw [f_X3_readUnit_141, t1, zbd_some, hv3]
            rw [cC s m hC, g1, zbd_some, if_pos (by decide), tok7 g2.1, Option.bind_some]
            by_cases q39 : TK b L k1 = 39
            · rw [if_pos (e39.mpr q39), e141]
            · rw [if_neg (fun z => q39 (e39.mp z))]
              by_cases q40 : TK b L k1 = 40
              · rw [if_pos (e40.mpr q40), e141]
              · rw [if_neg (fun z => q40 (e40.mp z)), if_pos (e41.mpr (by omega)), e141]
          have dR : ∀ s m, RT s b L N k m → s.1 76 15 = nI w → ∃ s1, RS s s1 b L N (k1 + 1) m c1 ∧ g_X8_readUnit qt8 qu8 (nI d) s = zbd (f_X8_readSum zDP (nI d) s1) fun _ s1 => zbd (f_X8_codes (nI (3003 + p)) s1) fun _ s2 => some ((), s2) := fun s m hR h15 => by
            obtain ⟨s1, g1, g2⟩ := oR s m hR h15
            have g2 : RS s s1 b L N k1 m c1 := g2
            obtain ⟨s2, t1, t2⟩ := nextS g2.1 hkN
            have q3 := g2.tr t2
            rw [List.append_nil] at q3
            refine ⟨s2, q3, ?_⟩
            rw [cR s m hR, g1, zbd_some, is8 g2.1 (by decide)]
            rcases (show p = 0 ∨ p = 1 ∨ p = 2 by omega) with q | q | q
            · subst q
              rw [if_pos hp, zbd_some, if_neg (by decide), f_X8_readUnit_111, is8 g2.1 (by decide), if_pos hp, zbd_some, if_pos (by decide), f_X8_readUnit_139, t1, zbd_some, f_X8_readUnit_151]
            · subst q
              rw [if_neg (by omega), zbd_some, if_pos rfl, is8 g2.1 (by decide), if_pos hp, zbd_some, if_neg (by decide), f_X8_readUnit_111, is8 g2.1 (by decide), if_neg (by omega), zbd_some, if_neg (fun z => z rfl), is8 g2.1 (by decide), if_pos hp, zbd_some, if_pos (by decide), f_X8_readUnit_139, t1, zbd_some, f_X8_readUnit_151]
            · subst q
              rw [if_neg (by omega), zbd_some, if_pos rfl, is8 g2.1 (by decide), if_neg (by omega), zbd_some, if_pos rfl, f_X8_readUnit_111, is8 g2.1 (by decide), if_neg (by omega), zbd_some, if_neg (fun z => z rfl), is8 g2.1 (by decide), if_neg (by omega), zbd_some, if_neg (fun z => z rfl), is8 g2.1 (by decide), if_pos hp, zbd_some, if_neg (by decide), f_X8_readUnit_139, t1, zbd_some, f_X8_readUnit_151]
          rcases hE (k1 + 1) (by omega) with ⟨kd, j, b1, b2, b3, bC, bR⟩ | ⟨k2, c2, r1, r2, r3, r4, rC, rR⟩
          · refine Or.inl ⟨kd, j, b1, b2, b3, fun s m hC h6 => ?_, fun s m hR h15 => ?_⟩
            · obtain ⟨s1, g1, g2⟩ := dC s m hC h6
              obtain ⟨s2, q1, q2⟩ := bC s1 _ g1.1 (g1.ww h6)
              refine ⟨s2, ?_, g1.bad q2⟩
              rw [g2, q1, zbd_some, if_neg (fun z => z rfl)]
            · obtain ⟨s1, g1, g2⟩ := dR s m hR h15
              obtain ⟨s2, q1, q2⟩ := bR s1 _ g1.1 (g1.ww h15)
              have hdd := RB.dead q2 b1 b2
              refine ⟨s2, ?_, g1.bad q2⟩
              rw [g2, q1, zbd_some, dead_codes hdd, zbd_some]
          · have hl1 : (c1 ++ c2).length = c1.length + c2.length := List.length_append
            refine Or.inr ⟨k2, (c1 ++ c2) ++ [3003 + p], by omega, r2, by rw [List.length_append]; show _ + 1 ≤ _; omega, fun st hst => ?_, fun s m hC h6 => ?_, fun s m hR h15 => ?_⟩
            · rw [zty_append, zty_append, o4 st (by omega), Option.bind_some, r4 (false :: st) (by rw [List.length_cons]; omega), Option.bind_some, ty_c (by omega)]
            · have hmk := hC.2.2.2.2.2.2
              obtain ⟨s1, g1, g2⟩ := dC s m hC h6
              obtain ⟨s2, q1, q2⟩ := rC s1 _ g1.1 (g1.ww h6)
              have q3 := CS.tr g1 q2
              obtain ⟨s3, t1, t2⟩ := emitS (c := 3003 + p) (x := nI (1109 + p)) q3.1 (by omega) (by rw [hz])
              refine ⟨s3, ?_, q3.tr t2⟩
              rw [g2, q1, zbd_some, if_pos (by decide), t1, zbd_some]
            · have hmk := hR.2.2.2.2.2.2.2.2.2
              obtain ⟨s1, g1, g2⟩ := dR s m hR h15
              obtain ⟨s2, q1, q2⟩ := rR s1 _ g1.1 (g1.ww h15)
              have q3 := RS.tr g1 q2
              obtain ⟨s3, t1, t2⟩ := codesS (c := 3003 + p) (x := nI (3003 + p)) q3.1 (by omega) rfl
              refine ⟨s3, ?_, q3.tr t2⟩
              rw [g2, q1, zbd_some, t1, zbd_some]
        · have hf := fkd_r (b := b) (L := L) (k := k1) (v := 2) (by decide) (by decide)
          refine Or.inl ⟨fkd b L k1 2, k1, hf.1, hf.2, o2, fun s m hC h6 => ?_, fun s m hR h15 => ?_⟩
          · obtain ⟨s1, g1, g2⟩ := oC s m hC h6
            have g2 : CS s s1 b L N k1 m c1 := g2
            obtain ⟨s2, t1, t2⟩ := refuseS g2.1 2
            refine ⟨s2, ?_, g2.bad t2⟩
            rw [cC s m hC, g1, zbd_some, if_pos (by decide), tok7 g2.1, Option.bind_some, if_neg (fun z => hcm (Or.inl (e39.mp z))), if_neg (fun z => hcm (Or.inr (Or.inl (e40.mp z)))), if_neg (fun z => hcm (Or.inr (Or.inr (e41.mp z)))), t1, zbd_some, if_pos (Or.inl rfl)]
          · obtain ⟨s1, g1, g2⟩ := oR s m hR h15
            have g2 : RS s s1 b L N k1 m c1 := g2
            obtain ⟨s2, t1, t2⟩ := failsS g2.1 2
            have hdd := RB.dead t2 hf.1 hf.2
            refine ⟨s2, ?_, g2.bad t2⟩
            rw [cR s m hR, g1, zbd_some, is8 g2.1 (by decide), if_neg (by omega), zbd_some, if_pos rfl, is8 g2.1 (by decide), if_neg (by omega), zbd_some, if_pos rfl, f_X8_readUnit_111, is8 g2.1 (by decide), if_neg (by omega), zbd_some, if_neg (fun z => z rfl), is8 g2.1 (by decide), if_neg (by omega), zbd_some, if_neg (fun z => z rfl), is8 g2.1 (by decide), if_neg (by omega), zbd_some, if_pos rfl, t1, zbd_some, u151_dead qt8 qu8 _ _ hdd]
end UNIT
