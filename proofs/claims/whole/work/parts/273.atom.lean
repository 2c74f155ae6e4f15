section ATOM
variable {b : Nat → Nat} {L N k k1 k2 m w kd j : Nat} {s t u : zS} {cs ds : List Nat}
/-- the name that a word is in law w, 0 for none -/
def nmw (w x : Nat) : Nat := if x = 3 then (if w = 1 then 1004 else 0) else if x = 8 then 1000 else if x = 9 then 1001 else if x = 10 then (if w = 0 then 1002 else 0) else if x = 11 then (if w = 1 then 1003 else 0) else if x = 12 then (if w = 1 then 1005 else 0) else if x = 13 then (if w = 1 then 1006 else 0) else 0
def nmc (w c : Nat) : Bool := decide (c = 1210 ∨ c = 1211 ∨ (w = 0 ∧ c = 1212) ∨ (w ≠ 0 ∧ 1213 ≤ c ∧ c ≤ 1216))
theorem nmw_a : ∀ w, w < 2 → ∀ x, x < 42 → lxOk x = true → nmc w (lxK x 0) = decide (nmw w x ≠ 0) := by decide +kernel
theorem nmw_b : ∀ w, w < 2 → ∀ x, x < 42 → lxOk x = true → nmw w x = 0 ∨ (lxK x 0 = zenc (nmw w x) ∧ zword w (nmw w x) = true ∧ x ≠ 35 ∧ 1000 ≤ nmw w x ∧ nmw w x < 1100) := by decide +kernel
theorem nmw_ok (x : Nat) (hx : x < 42) (hv : lxOk x = true) (w : Nat) (hw : w < 2) : nmc w (lxK x 0) = decide (nmw w x ≠ 0) ∧ (nmw w x ≠ 0 → lxK x 0 = zenc (nmw w x) ∧ zword w (nmw w x) = true ∧ x ≠ 35 ∧ 1000 ≤ nmw w x ∧ nmw w x < 1100) :=
  ⟨nmw_a w hw x hx hv, fun h => (nmw_b w hw x hx hv).resolve_left h⟩
theorem isName7 {c : Nat} (hc : c < 2 ^ 31) (hw : w < 2) (h6 : s.1 30 6 = nI w) : f_X3_isName (nI c) s = some (if nmc w c = true then 1 else 0, s) := by
  have hp : ∀ {p : Prop} [Decidable p], p → decide p = true := fun h => decide_eq_true h
  unfold f_X3_isName f_X3_isName_14 f_X3_isName_41 f_X3_isName_57
  by_cases h1 : c = 1210
  · rw [if_pos (by rw [h1]), if_pos (show nmc w c = true from hp (Or.inl h1))]
  · rw [if_neg (ne_of_nI h1 hc (by decide))]
    by_cases h2 : c = 1211
    · rw [if_neg (fun z => z (by rw [h2])), if_pos (show nmc w c = true from hp (Or.inr (Or.inl h2)))]
    · rw [if_pos (ne_of_nI h2 hc (by decide)), h6]
      by_cases h0 : w = 0
      · rw [if_pos (show nI w = 0 by rw [h0]; rfl)]
        by_cases h3 : c = 1212
        · rw [if_neg (fun z => z (by rw [h3])), if_pos (Or.inr rfl), if_pos (show nmc w c = true from hp (Or.inr (Or.inr (Or.inl ⟨h0, h3⟩))))]
        · rw [if_pos (ne_of_nI h3 hc (by decide)), if_pos (Or.inl rfl), if_neg (show ¬ nmc w c = true from fun z => by have := of_decide_eq_true z; omega)]
      · rw [if_neg (show ¬ nI w = 0 from ne_of_nI (b := 0) h0 (by omega) (by decide))]
        by_cases h3 : c < 1213
        · rw [if_pos (nI_lt h3 (by decide)), if_pos (Or.inl rfl), if_neg (show ¬ nmc w c = true from fun z => by have := of_decide_eq_true z; omega)]
        · rw [if_neg (nI_nlt (by omega) hc)]
          by_cases h4 : 1216 < c
          · rw [if_pos (nI_lt h4 hc), if_pos (Or.inl rfl), if_neg (show ¬ nmc w c = true from fun z => by have := of_decide_eq_true z; omega)]
          · rw [if_neg (nI_nlt (by omega) (by decide)), if_pos (Or.inr rfl), if_pos (show nmc w c = true from hp (Or.inr (Or.inr (Or.inr ⟨h0, by omega, by omega⟩))))]
def wo8 (v a : Int32) : Int32 :=
  if v = nI 3 then (if ¬ a = 1 then -1 else nI 4) else if v = nI 4 then -1 else if v = nI 5 then -1 else if v = nI 6 then -1 else if v = nI 7 then -1 else if v = nI 8 then 0 else if v = nI 9 then 1 else if v = nI 10 then (if ¬ a = 0 then -1 else nI 2) else if v = nI 11 then (if ¬ a = 1 then -1 else nI 3) else if v = nI 12 then (if ¬ a = 1 then -1 else nI 5) else if v = nI 13 then (if ¬ a = 1 then -1 else nI 6) else -1
theorem ite_some {α : Type} {p : Prop} [Decidable p] (x y : α) (s : zS) : (if p then some (x, s) else some (y, s)) = some (if p then x else y, s) := by
  by_cases h : p
  · rw [if_pos h, if_pos h]
  · rw [if_neg h, if_neg h]
theorem wordOf_eq (v : Int32) : f_X8_wordOf v s = some (wo8 v (s.1 76 15), s) := by
  unfold f_X8_wordOf wo8 f_X8_wordOf_104 f_X8_wordOf_76 f_X8_wordOf_90 f_X8_wordOf_118 f_X8_wordOf_133
  simp only [ite_some]
theorem wo8_nm : ∀ x, x < 42 → ∀ w, w < 2 → wo8 (nI x) (nI w) = if nmw w x = 0 then -1 else nI (nmw w x - 1000) := by decide +kernel
theorem wrd8 {x : Nat} (hx : x < 42) (hw : w < 2) (h15 : s.1 76 15 = nI w) : f_X8_wordOf (nI x) s = some (if nmw w x = 0 then -1 else nI (nmw w x - 1000), s) := by
  rw [wordOf_eq, h15, wo8_nm x hx w hw]
theorem tcE (h : TN b L N) (hk : k ≤ N) {x c : Nat} (hx : x < 42) (hv : lxOk x = true) (hc : lxK x 0 = c) : nI (TC b L k) = nI c ↔ TK b L k = x := by
  subst hc
  have hlt := TC_lt h hk
  have h2 := (lxK_inj x hx hv).2.1
  exact (nI_eq (by omega) (by omega)).trans (TC_eq h hk hx hv)
theorem TK_lt (h : TN b L N) (hk : k ≤ N) : TK b L k < 42 := by
  rcases TK_ok h hk with ⟨a1, -, -⟩ | ⟨-, a2, -⟩ <;> omega
theorem TK_N (h : TN b L N) (hk : k ≤ N) (h24 : TK b L k ≠ 24) : k < N := by
  rcases Nat.lt_or_eq_of_le hk with q | q
  · exact q
  · exact absurd (by rw [q]; exact TK_end h) h24
theorem zty_1 {c : Nat} (hc : zword w c = true) {st : List Bool} (h : st.length < 32) : zty w [c] st = some (false :: st) := by
  rw [zty, if_pos hc, if_pos h]; rfl
theorem zword_n (w : Nat) {c : Nat} (h : c < 1000) : zword w c = true := by
  unfold zword
  simp [h]
def DEAD (G : zS → Option (Unit × zS)) : Prop := ∀ s : zS, ¬ s.1 76 11 = 0 → G s = some ((), s)
theorem atom_dead {q8 : Int32 → zS → Option (Unit × zS)} (v : Int32) : DEAD (g_X8_readAtom q8 v) := fun s h => by
  rw [g_X8_readAtom, dead_is h, zbd_some, if_pos rfl, if_pos h, f_X8_readAtom_66, dead_is h, zbd_some, if_pos rfl, dead_fails h, zbd_some]; rfl
theorem atom_both (hTN : TN b L N) {d h : Nat} (hd : d ≤ 6) (hw : w < 2) (h1 : 1 ≤ h) {q7 : Int32 → zS → Option (Int32 × zS)} {q8 : Int32 → zS → Option (Unit × zS)} (hS : d < 6 → ∀ k, k ≤ N → BOTH (q7 (nI (d + 1))) (q8 (nI (d + 1))) b L N k w h false) (hk : k ≤ N) : BOTH (g_X3_readAtom q7 (nI d)) (g_X8_readAtom q8 (nI d)) b L N k w h false := by
  have hx := TK_lt hTN hk
  have hT := TC_lt hTN hk
  have e35 : nI (TC b L k) = nI 1105 ↔ TK b L k = 35 := tcE hTN hk (by decide) (by decide) rfl
  by_cases h23 : TK b L k = 23
  · -- a number
    have hkN := TK_N hTN hk (by omega)
    obtain ⟨-, hv⟩ := TK_r hTN hkN
    have hv := hv h23
    have hc : TC b L k = TV b L k := by
      show lxK (TK b L k) (TV b L k) = _
      rw [h23]; rfl
    refine Or.inr ⟨k + 1, [TV b L k], by omega, by omega, by show 1 ≤ _; omega, fun st hst => zty_1 (zword_n w hv) (by omega), fun s m hC h6 => ?_, fun s m hR h15 => ?_⟩
    · obtain ⟨s', g1, g2⟩ := putS (c := TV b L k) (x := nI (TC b L k)) hC hkN (by rw [hc, zenc_s hv])
      refine ⟨s', ?_, g2⟩
      rw [g_X3_readAtom, tok7 hC, Option.bind_some, if_pos (fun z => by have := e35.mp z; omega), if_pos (nI_lt (by omega) (by omega)), f_X3_readAtom_93]
      exact g1
    · obtain ⟨s1, s', g1, g2, g3⟩ := put8 (c := TV b L k) (x := s.1 76 10) hR hkN (hR.2.2.2.2.2.2.1 h23)
      refine ⟨s', ?_, g3⟩
      rw [g_X8_readAtom, is8 hR (by decide), if_pos h23, zbd_some, if_neg (by decide), g1, zbd_some, g2, zbd_some]; rfl
  · have a := TK_ok hTN hk
    have a : lxOk (TK b L k) = true ∧ TK b L k < 42 ∧ TC b L k = lxK (TK b L k) 0 := by
      rcases a with a | a
      · exact absurd a.1 h23
      · exact a
    obtain ⟨n1, n2⟩ := nmw_ok _ hx a.1 w hw
    have hge := (lxK_inj _ hx a.1).1
    by_cases h35 : TK b L k = 35
    · have hkN := TK_N hTN hk (by omega)
      have h0 : nmw w (TK b L k) = 0 := by
        by_cases z : nmw w (TK b L k) = 0
        · exact z
        · exact absurd h35 (n2 z).2.2.1
      have rR : ∀ s m, RT s b L N k m → s.1 76 15 = nI w → g_X8_readAtom q8 (nI d) s = zbd (f_X8_goesIn (nI d) s) fun r4 s5 => if ¬ r4 = 0 then (zbd (q8 (nI d + (1 : Int32)) s5) fun _ s6 => zbd (f_X8_eats (nI 36) s6) fun r7 s8 => if ¬ r7 = 0 then (f_X8_readAtom_113 q8 s8) else zbd (f_X8_fails (nI 2) s8) fun _ s9 => f_X8_readAtom_113 q8 s9) else some ((), s5) := fun s m hR h15 => by
        rw [g_X8_readAtom, is8 hR (by decide), if_neg h23, zbd_some, if_pos rfl, if_neg (fun z => z hR.2.2.2.2.2.2.2.1), hR.2.2.2.2.2.1, wrd8 hx hw h15, if_pos h0, zbd_some, if_pos rfl, f_X8_readAtom_66, is8 hR (by decide), if_pos h35, zbd_some, if_neg (by decide)]
      by_cases hd6 : d = 6
      · refine Or.inl ⟨4, k, by decide, by decide, hk, fun s m hC h6 => ?_, fun s m hR h15 => ?_⟩
        · obtain ⟨s', g1, g2⟩ := refuseS hC 4
          rw [fkd_n (by omega)] at g2
          refine ⟨s', ?_, g2⟩
          rw [g_X3_readAtom, tok7 hC, Option.bind_some, if_neg (fun z => z (e35.mpr h35)), if_neg (nI_nlt (by omega) (by omega)), g1, zbd_some, if_pos (Or.inl rfl)]
        · obtain ⟨s', g1, g2⟩ := (goesS hR hkN hd).1 hd6
          rw [fkd_n (by omega)] at g2
          refine ⟨s', ?_, g2⟩
          rw [rR s m hR h15, g1, zbd_some, if_neg (fun z => z rfl)]
      · have hlt : d < 6 := by omega
        have cC : ∀ s m, CT s b L N k m → s.1 30 6 = nI w → ∃ s1, CS s s1 b L N (k + 1) m [] ∧ g_X3_readAtom q7 (nI d) s = zbd (q7 (nI (d + 1)) s1) fun r9 s10 => if ¬ r9 = 0 then f_X3_take (nI 1106) s10 else some ((0 : Int32), s10) := fun s m hC h6 => by
          obtain ⟨s1, g1, g2⟩ := stepS hC hkN
          refine ⟨s1, g2, ?_⟩
          rw [g_X3_readAtom, tok7 hC, Option.bind_some, if_neg (fun z => z (e35.mpr h35)), if_pos (nI_lt (by omega) (by omega)), g1, zbd_some, nI_1]; rfl
        have cR : ∀ s m, RT s b L N k m → s.1 76 15 = nI w → ∃ s1, RS s s1 b L N (k + 1) m [] ∧ g_X8_readAtom q8 (nI d) s = zbd (q8 (nI (d + 1)) s1) fun _ s6 => zbd (f_X8_eats (nI 36) s6) fun r7 s8 => if ¬ r7 = 0 then (f_X8_readAtom_113 q8 s8) else zbd (f_X8_fails (nI 2) s8) fun _ s9 => f_X8_readAtom_113 q8 s9 := fun s m hR h15 => by
          obtain ⟨s1, g1, g2⟩ := (goesS hR hkN hd).2 hlt
          refine ⟨s1, g2, ?_⟩
          rw [rR s m hR h15, g1, zbd_some, if_pos (by decide), nI_1]
        rcases hS hlt (k + 1) (by omega) with ⟨kd, j, b1, b2, b3, bC, bR⟩ | ⟨k2, cs, o1, o2, o3, o4, oC, oR⟩
        · refine Or.inl ⟨kd, j, b1, b2, b3, fun s m hC h6 => ?_, fun s m hR h15 => ?_⟩
          · obtain ⟨s1, g1, g2⟩ := cC s m hC h6
            obtain ⟨s2, q1, q2⟩ := bC s1 _ g1.1 (g1.ww h6)
            refine ⟨s2, ?_, g1.bad q2⟩
            rw [g2, q1, zbd_some, if_neg (fun z => z rfl)]
          · obtain ⟨s1, g1, g2⟩ := cR s m hR h15
            obtain ⟨s2, q1, q2⟩ := bR s1 _ g1.1 (g1.ww h15)
            have hdd := RB.dead q2 b1 b2
            refine ⟨s2, ?_, g1.bad q2⟩
            rw [g2, q1, zbd_some, dead_eats hdd, zbd_some, if_neg (fun z => z rfl), dead_fails hdd, zbd_some]; rfl
        · by_cases h36 : TK b L k2 = 36
          · have hk2 := TK_N hTN o2 (by omega)
            refine Or.inr ⟨k2 + 1, cs, by omega, by omega, by omega, fun st hst => o4 st hst, fun s m hC h6 => ?_, fun s m hR h15 => ?_⟩
            · obtain ⟨s1, g1, g2⟩ := cC s m hC h6
              obtain ⟨s2, q1, q2⟩ := oC s1 _ g1.1 (g1.ww h6)
              obtain ⟨s3, t1, t2⟩ := (takeS q2.1 (x := 36) (by decide) (by decide) (by decide)).1 h36
              have q3 := (CS.tr g1 q2).tr t2
              rw [List.append_nil] at q3
              refine ⟨s3, ?_, q3⟩
              rw [g2, q1, zbd_some, if_pos (by decide), show nI 1106 = nI (lxK 36 0) from rfl, t1]
            · obtain ⟨s1, g1, g2⟩ := cR s m hR h15
              obtain ⟨s2, q1, q2⟩ := oR s1 _ g1.1 (g1.ww h15)
              obtain ⟨s3, t1, t2⟩ := (eatsS q2.1 (x := 36) (by decide) (by decide)).1 h36
              have q3 := (RS.tr g1 q2).tr t2
              rw [List.append_nil] at q3
              refine ⟨s3, ?_, q3⟩
              rw [g2, q1, zbd_some, t1, zbd_some, if_pos (by decide)]; rfl
          · have hf := fkd_r (b := b) (L := L) (k := k2) (v := 2) (by decide) (by decide)
            refine Or.inl ⟨fkd b L k2 2, k2, hf.1, hf.2, o2, fun s m hC h6 => ?_, fun s m hR h15 => ?_⟩
            · obtain ⟨s1, g1, g2⟩ := cC s m hC h6
              obtain ⟨s2, q1, q2⟩ := oC s1 _ g1.1 (g1.ww h6)
              obtain ⟨s3, t1, t2⟩ := (takeS q2.1 (x := 36) (by decide) (by decide) (by decide)).2 h36
              refine ⟨s3, ?_, (CS.tr g1 q2).bad t2⟩
              rw [g2, q1, zbd_some, if_pos (by decide), show nI 1106 = nI (lxK 36 0) from rfl, t1]
            · obtain ⟨s1, g1, g2⟩ := cR s m hR h15
              obtain ⟨s2, q1, q2⟩ := oR s1 _ g1.1 (g1.ww h15)
              have t1 := (eatsS q2.1 (x := 36) (by decide) (by decide)).2 h36
              obtain ⟨s3, t2, t3⟩ := failsS q2.1 2
              refine ⟨s3, ?_, (RS.tr g1 q2).bad t3⟩
              rw [g2, q1, zbd_some, t1, zbd_some, if_neg (fun z => z rfl), t2, zbd_some]; rfl
    · have hne : ¬ nI (TC b L k) = nI 1105 := fun z => h35 (e35.mp z)
      by_cases hn : nmw w (TK b L k) = 0
      · have hf := fkd_r (b := b) (L := L) (k := k) (v := 2) (by decide) (by decide)
        refine Or.inl ⟨fkd b L k 2, k, hf.1, hf.2, hk, fun s m hC h6 => ?_, fun s m hR h15 => ?_⟩
        · obtain ⟨s', g1, g2⟩ := refuseS hC 2
          refine ⟨s', ?_, g2⟩
          rw [g_X3_readAtom, tok7 hC, Option.bind_some, if_pos hne, if_neg (nI_nlt (by omega) (by omega)), isName7 (by omega) hw h6, a.2.2, n1, if_neg (by simp [hn]), zbd_some, if_neg (fun z => z rfl), g1, zbd_some, if_pos (Or.inl rfl)]
        · obtain ⟨s', g1, g2⟩ := failsS hR 2
          refine ⟨s', ?_, g2⟩
          rw [g_X8_readAtom, is8 hR (by decide), if_neg h23, zbd_some, if_pos rfl, if_neg (fun z => z hR.2.2.2.2.2.2.2.1), hR.2.2.2.2.2.1, wrd8 hx hw h15, if_pos hn, zbd_some, if_pos rfl, f_X8_readAtom_66, is8 hR (by decide), if_neg h35, zbd_some, if_pos rfl, g1, zbd_some]; rfl
      · obtain ⟨m1, m2, -, m3, m4⟩ := n2 hn
        have hkN : k < N := TK_N hTN hk (fun z => by
          rw [z] at hn
          exact hn rfl)
        refine Or.inr ⟨k + 1, [nmw w (TK b L k)], by omega, by omega, by show 1 ≤ _; omega, fun st hst => zty_1 m2 (by omega), fun s m hC h6 => ?_, fun s m hR h15 => ?_⟩
        · obtain ⟨s', g1, g2⟩ := putS (c := nmw w (TK b L k)) (x := nI (TC b L k)) hC hkN (by rw [a.2.2, m1])
          refine ⟨s', ?_, g2⟩
          rw [g_X3_readAtom, tok7 hC, Option.bind_some, if_pos hne, if_neg (nI_nlt (by omega) (by omega)), isName7 (by omega) hw h6, if_pos (show nmc w (TC b L k) = true by rw [a.2.2, n1]; exact decide_eq_true hn), zbd_some, if_pos (by decide), f_X3_readAtom_93]
          exact g1
        · obtain ⟨s1, s', g1, g2, g3⟩ := put8 (c := nmw w (TK b L k)) (x := nI 1000 + nI (nmw w (TK b L k) - 1000)) hR hkN (by rw [nI_add]; exact congrArg nI (by omega))
          refine ⟨s', ?_, g3⟩
          rw [g_X8_readAtom, is8 hR (by decide), if_neg h23, zbd_some, if_pos rfl, if_neg (fun z => z hR.2.2.2.2.2.2.2.1), hR.2.2.2.2.2.1, wrd8 hx hw h15, if_neg hn, zbd_some, if_neg (ne_m1 (by omega)), hR.2.2.2.2.2.1, wrd8 hx hw h15, if_neg hn, zbd_some, g1, zbd_some, g2, zbd_some]; rfl
end ATOM
