section SUM
variable {b : Nat → Nat} {L N k k1 k2 m w kd j p : Nat} {s t u : zS} {cs ds : List Nat}
/-- rules with a sign still to come: e codes are kept for it -/
def C7p (F : zS → Option (Int32 × zS)) (b : Nat → Nat) (L N k w e k2 : Nat) (cs : List Nat) : Prop := ∀ s m, CT s b L N k m → m + e ≤ k → s.1 30 6 = nI w → ∃ s', F s = some (1, s') ∧ CS s s' b L N k2 m cs
def R8p (F : zS → Option (Unit × zS)) (b : Nat → Nat) (L N k w e k2 : Nat) (cs : List Nat) : Prop := ∀ s m, RT s b L N k m → m + e ≤ k → s.1 76 15 = nI w → ∃ s', F s = some ((), s') ∧ RS s s' b L N k2 m cs
def REST (F : zS → Option (Int32 × zS)) (G : zS → Option (Unit × zS)) (b : Nat → Nat) (L N k w e : Nat) (pre : List Bool) (h : Nat) (y : Bool) : Prop := (∃ kd j, 0 < kd ∧ kd < 5 ∧ j ≤ N ∧ (∀ s m, CT s b L N k m → m + e ≤ k → s.1 30 6 = nI w → ∃ s', F s = some (0, s') ∧ CB s s' b L kd j) ∧ (∀ s m, RT s b L N k m → m + e ≤ k → s.1 76 15 = nI w → ∃ s', G s = some ((), s') ∧ RB s s' b L kd j)) ∨ ∃ k2 cs, k ≤ k2 ∧ k2 ≤ N ∧ cs.length ≤ k2 - k + e ∧ (∀ st : List Bool, st.length + h ≤ 32 → zty w cs (pre ++ st) = some (y :: st)) ∧ C7p F b L N k w e k2 cs ∧ R8p G b L N k w e k2 cs
theorem CS.rf (h : CT s b L N k m) : CS s s b L N k m [] := ⟨h, fun i hi => absurd hi (Nat.not_lt_zero _), fun _ _ => rfl, CF.rf⟩
theorem RS.rf (h : RT s b L N k m) : RS s s b L N k m [] := ⟨h, fun i hi => absurd hi (Nat.not_lt_zero _), fun _ _ => rfl, RF.rf⟩
/-- the sign that waits: 0 none, 1 +, 2 - -/
def v3c (p : Nat) : Nat := if p = 0 then 1000 else 1101 + p
def pcs (p : Nat) : List Nat := if p = 0 then [] else [2999 + p]
def prb (p : Nat) : List Bool := if p = 0 then [] else [false]
def pnd (p : Nat) (s : zS) : Option (Unit × zS) := if p = 0 then some ((), s) else f_X8_codes (nI (2999 + p)) s
theorem pnd_dead (h : ¬ s.1 76 11 = 0) : pnd p s = some ((), s) := by
  unfold pnd
  by_cases e : p = 0
  · rw [if_pos e]
  · rw [if_neg e, dead_codes h]
theorem pendC (hp : p < 3) (h : CT s b L N k m) (hm : m + (pcs p).length ≤ k) : ∃ s', CS s s' b L N k m (pcs p) ∧ ∀ X : zS → Option (Int32 × zS), (if nI (v3c p) = nI 1000 then X s else zbd (f_X3_emit (nI (v3c p)) s) fun _ s4 => X s4) = X s' := by
  by_cases e : p = 0
  · subst e
    exact ⟨s, CS.rf h, fun X => if_pos rfl⟩
  · have e1 : pcs p = [2999 + p] := if_neg e
    have e2 : v3c p = 1101 + p := if_neg e
    rw [e1] at hm
    have hz : zenc (2999 + p) = 1101 + p := (by decide : ∀ p, p < 3 → ¬ p = 0 → zenc (2999 + p) = 1101 + p) p hp e
    obtain ⟨s', g1, g2⟩ := emitS (c := 2999 + p) (x := nI (v3c p)) h hm (by rw [e2, hz])
    rw [e1]
    refine ⟨s', g2, fun X => ?_⟩
    rw [if_neg (by rw [e2]; exact ne_of_nI (by omega) (by omega) (by omega)), g1, zbd_some]
theorem pendR (h : RT s b L N k m) (hm : m + (pcs p).length ≤ k) : ∃ s', RS s s' b L N k m (pcs p) ∧ pnd p s = some ((), s') := by
  by_cases e : p = 0
  · subst e
    exact ⟨s, RS.rf h, rfl⟩
  · have e1 : pcs p = [2999 + p] := if_neg e
    rw [e1] at hm
    obtain ⟨s', g1, g2⟩ := codesS (c := 2999 + p) (x := nI (2999 + p)) h hm rfl
    rw [e1]
    exact ⟨s', g2, by rw [pnd, if_neg e, g1]⟩
theorem pcs_ty (hp : p < 3) (st : List Bool) : zty w (pcs p) (false :: prb p ++ st) = some (false :: st) := by
  by_cases e : p = 0
  · subst e; rfl
  · have e1 : pcs p = [2999 + p] := if_neg e
    have e2 : prb p = [false] := if_neg e
    rw [e1, e2, zty, if_neg (by
      intro z
      have := zword_cases z
      omega), if_neg (by omega), if_pos (by omega)]
    rfl
theorem ty_2 {c : Nat} (hc : c = 3000 ∨ c = 3001 ∨ c = 3002) (st : List Bool) : zty w [c] (false :: false :: st) = some (false :: st) := by
  rw [zty, if_neg (by
      intro z
      have := zword_cases z
      omega), if_neg (by omega), if_pos hc]
  rfl
theorem rS9 (q7 : Int32 → zS → Option (Int32 × zS)) (n : Nat) (v1 v2 v3 v4 : Int32) (s : zS) : f_X3_readSum_9 q7 (n + 1) v1 v2 v3 v4 s = if (nI 900) ≤ v4 then (zbd (f_X3_refuse (nI 2) s) fun r6 s7 => if r6 = 0 ∨ r6 = 1 then some (r6, s7) else none) else zbd (q7 v1 s) fun r8 s9 => if ¬ r8 = 0 then (if v2 = 0 then (f_X3_readSum_38 q7 (f_X3_readSum_9 q7 n) v1 v3 v4 s9) else zbd (f_X3_emit (nI 1104) s9) fun _ s10 => f_X3_readSum_38 q7 (f_X3_readSum_9 q7 n) v1 v3 v4 s10) else some ((0 : Int32), s9) := rfl
theorem rT5 (q8 : Int32 → zS → Option (Unit × zS)) (n : Nat) (v1 : Int32) (s : zS) : f_X8_readTerm_5 q8 (n + 1) v1 s = zbd (f_X8_eats (nI 34) s) fun r1 s2 => if r1 = 0 then (some ((), s2)) else zbd (q8 v1 s2) fun _ s3 => zbd (f_X8_codes (nI 3002) s3) fun _ s4 => f_X8_readTerm_5 q8 n v1 s4 := rfl
theorem rU5 (q8 : Int32 → zS → Option (Unit × zS)) (n : Nat) (v1 : Int32) (s : zS) : f_X8_readSum_5 q8 (n + 1) v1 s = zbd (f_X8_is (nI 32) s) fun r4 s5 => if ¬ r4 = 0 then (f_X8_readSum_23 q8 (f_X8_readSum_5 q8 n) v1 s5) else zbd (f_X8_is (nI 33) s5) fun r6 s7 => if r6 = 0 then (some ((), s7)) else f_X8_readSum_23 q8 (f_X8_readSum_5 q8 n) v1 s7 := rfl
theorem rT5_dead {q8 : Int32 → zS → Option (Unit × zS)} {n : Nat} (hn : 1 ≤ n) {v1 : Int32} (h : ¬ s.1 76 11 = 0) : f_X8_readTerm_5 q8 n v1 s = some ((), s) := by
  obtain ⟨n, rfl⟩ : ∃ q, n = q + 1 := ⟨n - 1, by omega⟩
  rw [rT5, dead_eats h, zbd_some, if_pos rfl]
theorem rU5_dead {q8 : Int32 → zS → Option (Unit × zS)} {n : Nat} (hn : 1 ≤ n) {v1 : Int32} (h : ¬ s.1 76 11 = 0) : f_X8_readSum_5 q8 n v1 s = some ((), s) := by
  obtain ⟨n, rfl⟩ : ∃ q, n = q + 1 := ⟨n - 1, by omega⟩
  rw [rU5, dead_is h, zbd_some, if_neg (fun z => z rfl), dead_is h, zbd_some, if_pos rfl]
theorem sum_dead {q8 : Int32 → zS → Option (Unit × zS)} {v : Int32} (hD : DEAD (q8 v)) : DEAD (g_X8_readSum (g_X8_readTerm q8) v) := fun s h => by
  rw [g_X8_readSum, g_X8_readTerm, hD s h, zbd_some, rT5_dead (by decide) h, zbd_some, rU5_dead (by decide) h]
theorem sum_rest (hTN : TN b L N) {d h : Nat} {q7 : Int32 → zS → Option (Int32 × zS)} {q8 : Int32 → zS → Option (Unit × zS)} (hA : ∀ k, k ≤ N → BOTH (q7 (nI d)) (q8 (nI d)) b L N k w h false) : ∀ n k, k ≤ N → N - k < n → n ≤ zFU → ∀ p, p < 3 → ∀ n7 n8 n9 i, n ≤ n7 → n ≤ n8 → n ≤ n9 → i + (N - k) < 900 →
    REST (fun s => f_X3_readSum_38 q7 (f_X3_readSum_9 q7 n7) (nI d) (nI (v3c p)) (nI i) s) (fun s => zbd (f_X8_readTerm_5 q8 n8 (nI d) s) fun _ s2 => zbd (pnd p s2) fun _ s3 => f_X8_readSum_5 (g_X8_readTerm q8) n9 (nI d) s3) b L N k w (pcs p).length (false :: prb p) (h + 2) false := by
  intro n
  induction n with
  | zero => intro k _ hlt; omega
  | succ n ih =>
    intro k hk hlt hfu p hp n7 n8 n9 i h7 h8 h9 hi
    have e34 : nI (TC b L k) = nI 1104 ↔ TK b L k = 34 := tcE hTN hk (by decide) (by decide) rfl
    have e32 : nI (TC b L k) = nI 1102 ↔ TK b L k = 32 := tcE hTN hk (by decide) (by decide) rfl
    have e33 : nI (TC b L k) = nI 1103 ↔ TK b L k = 33 := tcE hTN hk (by decide) (by decide) rfl
    have hpl : (prb p).length ≤ 1 := by
      unfold prb
      by_cases e : p = 0
      · rw [if_pos e]; exact Nat.zero_le _
      · rw [if_neg e]; exact Nat.le_refl _
    obtain ⟨n7, rfl⟩ : ∃ q, n7 = q + 1 := ⟨n7 - 1, by omega⟩
    obtain ⟨n8, rfl⟩ : ∃ q, n8 = q + 1 := ⟨n8 - 1, by omega⟩
    obtain ⟨n9, rfl⟩ : ∃ q, n9 = q + 1 := ⟨n9 - 1, by omega⟩
    by_cases h34 : TK b L k = 34
    · have hkN := TK_N hTN hk (by omega)
      have cC : ∀ s m, CT s b L N k m → ∃ s1, CS s s1 b L N (k + 1) m [] ∧ f_X3_readSum_38 q7 (f_X3_readSum_9 q7 (n7 + 1)) (nI d) (nI (v3c p)) (nI i) s = zbd (q7 (nI d) s1) fun r8 s9 => if ¬ r8 = 0 then (zbd (f_X3_emit (nI 1104) s9) fun _ s10 => f_X3_readSum_38 q7 (f_X3_readSum_9 q7 n7) (nI d) (nI (v3c p)) (nI (i + 1)) s10) else some ((0 : Int32), s9) := fun s m hC => by
        obtain ⟨s1, g1, g2⟩ := stepS hC hkN
        refine ⟨s1, g2, ?_⟩
        rw [f_X3_readSum_38, tok7 hC, Option.bind_some, if_neg (fun z => z (e34.mpr h34)), f_X3_readSum_58, if_pos (by decide), f_X3_readSum_101, g1, zbd_some, zb_eq, nI_1, rS9, if_neg (nI_ge (by omega) (by decide))]
        rfl
      have cR : ∀ s m, RT s b L N k m → ∃ s1, RS s s1 b L N (k + 1) m [] ∧ f_X8_readTerm_5 q8 (n8 + 1) (nI d) s = zbd (q8 (nI d) s1) fun _ s3 => zbd (f_X8_codes (nI 3002) s3) fun _ s4 => f_X8_readTerm_5 q8 n8 (nI d) s4 := fun s m hR => by
        obtain ⟨s1, g1, g2⟩ := (eatsS hR (x := 34) (by decide) (by decide)).1 h34
        refine ⟨s1, g2, ?_⟩
        rw [rT5, g1, zbd_some, if_neg (by decide)]
      rcases hA (k + 1) (by omega) with ⟨kd, j, b1, b2, b3, bC, bR⟩ | ⟨k1, c1, o1, o2, o3, o4, oC, oR⟩
      · refine Or.inl ⟨kd, j, b1, b2, b3, fun s m hC _ h6 => ?_, fun s m hR _ h15 => ?_⟩
        · obtain ⟨s1, g1, g2⟩ := cC s m hC
          obtain ⟨s2, q1, q2⟩ := bC s1 _ g1.1 (g1.ww h6)
          refine ⟨s2, ?_, g1.bad q2⟩
          dsimp only
          rw [g2, q1, zbd_some, if_neg (fun z => z rfl)]
        · obtain ⟨s1, g1, g2⟩ := cR s m hR
          obtain ⟨s2, q1, q2⟩ := bR s1 _ g1.1 (g1.ww h15)
          have hdd := RB.dead q2 b1 b2
          refine ⟨s2, ?_, g1.bad q2⟩
          dsimp only
          rw [g2, q1, zbd_some, dead_codes hdd, zbd_some, rT5_dead (by omega) hdd, zbd_some, pnd_dead hdd, zbd_some, rU5_dead (by omega) hdd]
      · have dC : ∀ s m, CT s b L N k m → s.1 30 6 = nI w → ∃ s1, CS s s1 b L N k1 m (c1 ++ [3002]) ∧ f_X3_readSum_38 q7 (f_X3_readSum_9 q7 (n7 + 1)) (nI d) (nI (v3c p)) (nI i) s = f_X3_readSum_38 q7 (f_X3_readSum_9 q7 n7) (nI d) (nI (v3c p)) (nI (i + 1)) s1 := fun s m hC h6 => by
          have hmk := hC.2.2.2.2.2.2
          obtain ⟨s1, g1, g2⟩ := cC s m hC
          obtain ⟨s2, q1, q2⟩ := oC s1 _ g1.1 (g1.ww h6)
          have q3 := CS.tr g1 q2
          obtain ⟨s3, t1, t2⟩ := emitS (c := 3002) (x := nI 1104) q3.1 (by rw [List.nil_append]; omega) rfl
          refine ⟨s3, q3.tr t2, ?_⟩
          rw [g2, q1, zbd_some, if_pos (by decide), t1, zbd_some]
        have dR : ∀ s m, RT s b L N k m → s.1 76 15 = nI w → ∃ s1, RS s s1 b L N k1 m (c1 ++ [3002]) ∧ f_X8_readTerm_5 q8 (n8 + 1) (nI d) s = f_X8_readTerm_5 q8 n8 (nI d) s1 := fun s m hR h15 => by
          have hmk := hR.2.2.2.2.2.2.2.2.2
          obtain ⟨s1, g1, g2⟩ := cR s m hR
          obtain ⟨s2, q1, q2⟩ := oR s1 _ g1.1 (g1.ww h15)
          have q3 := RS.tr g1 q2
          obtain ⟨s3, t1, t2⟩ := codesS (c := 3002) (x := nI 3002) q3.1 (by rw [List.nil_append]; omega) rfl
          refine ⟨s3, q3.tr t2, ?_⟩
          rw [g2, q1, zbd_some, t1, zbd_some]
        have hl1 : (c1 ++ [3002]).length = c1.length + 1 := List.length_append
        rcases ih k1 (by omega) (by omega) (by omega) p hp n7 n8 (n9 + 1) (i + 1) (by omega) (by omega) (by omega) (by omega) with ⟨kd, j, b1, b2, b3, bC, bR⟩ | ⟨k2, c2, r1, r2, r3, r4, rC, rR⟩
        · refine Or.inl ⟨kd, j, b1, b2, b3, fun s m hC hm h6 => ?_, fun s m hR hm h15 => ?_⟩
          · obtain ⟨s1, g1, g2⟩ := dC s m hC h6
            obtain ⟨s2, q1, q2⟩ := bC s1 _ g1.1 (by omega) (g1.ww h6)
            exact ⟨s2, g2.trans q1, g1.bad q2⟩
          · obtain ⟨s1, g1, g2⟩ := dR s m hR h15
            obtain ⟨s2, q1, q2⟩ := bR s1 _ g1.1 (by omega) (g1.ww h15)
            refine ⟨s2, ?_, g1.bad q2⟩
            dsimp only at q1 ⊢
            rw [g2]
            exact q1
        · refine Or.inr ⟨k2, (c1 ++ [3002]) ++ c2, by omega, r2, by rw [List.length_append]; omega, fun st hst => ?_, fun s m hC hm h6 => ?_, fun s m hR hm h15 => ?_⟩
          · rw [zty_append, zty_append, show false :: prb p ++ st = false :: (prb p ++ st) from rfl, o4 (false :: (prb p ++ st)) (by rw [List.length_cons, List.length_append]; omega), Option.bind_some, ty_2 (by omega), Option.bind_some]
            exact r4 st hst
          · obtain ⟨s1, g1, g2⟩ := dC s m hC h6
            obtain ⟨s2, q1, q2⟩ := rC s1 _ g1.1 (by omega) (g1.ww h6)
            exact ⟨s2, g2.trans q1, g1.tr q2⟩
          · obtain ⟨s1, g1, g2⟩ := dR s m hR h15
            obtain ⟨s2, q1, q2⟩ := rR s1 _ g1.1 (by omega) (g1.ww h15)
            refine ⟨s2, ?_, g1.tr q2⟩
            dsimp only at q1 ⊢
            rw [g2]
            exact q1
    · have cC : ∀ s m, CT s b L N k m → m + (pcs p).length ≤ k → ∃ s1, CS s s1 b L N k m (pcs p) ∧ f_X3_readSum_38 q7 (f_X3_readSum_9 q7 (n7 + 1)) (nI d) (nI (v3c p)) (nI i) s = f_X3_readSum_75 q7 (f_X3_readSum_9 q7 (n7 + 1)) (nI d) 0 (nI i) s1 := fun s m hC hm => by
        obtain ⟨s1, g1, g2⟩ := pendC hp hC hm
        refine ⟨s1, g1, ?_⟩
        rw [f_X3_readSum_38, tok7 hC, Option.bind_some, if_pos (fun z => h34 (e34.mp z)), f_X3_readSum_58, if_neg (fun z => z rfl)]
        exact g2 _
      have cR : ∀ s m, RT s b L N k m → m + (pcs p).length ≤ k → ∃ s1, RS s s1 b L N k m (pcs p) ∧ (zbd (f_X8_readTerm_5 q8 (n8 + 1) (nI d) s) fun _ s2 => zbd (pnd p s2) fun _ s3 => f_X8_readSum_5 (g_X8_readTerm q8) (n9 + 1) (nI d) s3) = f_X8_readSum_5 (g_X8_readTerm q8) (n9 + 1) (nI d) s1 := fun s m hR hm => by
        obtain ⟨s1, g1, g2⟩ := pendR hR hm
        refine ⟨s1, g1, ?_⟩
        rw [rT5, (eatsS hR (x := 34) (by decide) (by decide)).2 h34, zbd_some, if_pos rfl, zbd_some, g2, zbd_some]
      by_cases hpm : TK b L k = 32 ∨ TK b L k = 33
      · have hkN := TK_N hTN hk (by omega)
        obtain ⟨p', hp', hk'⟩ : ∃ p', TK b L k = 31 + p' ∧ (p' = 1 ∨ p' = 2) := ⟨TK b L k - 31, by omega, by omega⟩
        have hv3 : nI (TC b L k) = nI (v3c p') := by
          have e : v3c p' = 1101 + p' := if_neg (by omega)
          rw [e]
          rcases hk' with q | q
          · subst q; exact e32.mpr hp'
          · subst q; exact e33.mpr hp'
        have hpc : pcs p' = [2999 + p'] := if_neg (by omega)
        have hpr : prb p' = [false] := if_neg (by omega)
        have hpn : ∀ s, pnd p' s = f_X8_codes (nI (2999 + p')) s := fun s => if_neg (by omega)
        have dC : ∀ s m, CT s b L N k m → m + (pcs p).length ≤ k → ∃ s1, CS s s1 b L N (k + 1) m (pcs p) ∧ f_X3_readSum_38 q7 (f_X3_readSum_9 q7 (n7 + 1)) (nI d) (nI (v3c p)) (nI i) s = zbd (q7 (nI d) s1) fun r8 s9 => if ¬ r8 = 0 then (f_X3_readSum_38 q7 (f_X3_readSum_9 q7 n7) (nI d) (nI (v3c p')) (nI (i + 1)) s9) else some ((0 : Int32), s9) := fun s m hC hm => by
          obtain ⟨s1, g1, g2⟩ := cC s m hC hm
          obtain ⟨s2, t1, t2⟩ := stepS g1.1 hkN
          have q3 := g1.tr t2
          rw [List.append_nil] at q3
          refine ⟨s2, q3, ?_⟩
          have e101 : f_X3_readSum_101 q7 (f_X3_readSum_9 q7 (n7 + 1)) (nI d) 0 (nI (TC b L k)) (nI i) s1 = zbd (q7 (nI d) s2) fun r8 s9 => if ¬ r8 = 0 then (f_X3_readSum_38 q7 (f_X3_readSum_9 q7 n7) (nI d) (nI (v3c p')) (nI (i + 1)) s9) else some ((0 : Int32), s9) := by
            rw [f_X3_readSum_101, t1, zbd_some, zb_eq, nI_1, rS9, if_neg (nI_ge (by omega) (by decide)), hv3]
            rfl
          rw [g2, f_X3_readSum_75, tok7 g1.1, Option.bind_some]
          by_cases q : TK b L k = 32
          · rw [if_pos (e32.mpr q), e101]
          · rw [if_neg (fun z => q (e32.mp z)), if_pos (e33.mpr (by omega)), e101]
        have dR : ∀ s m, RT s b L N k m → m + (pcs p).length ≤ k → ∃ s1, RS s s1 b L N (k + 1) m (pcs p) ∧ (zbd (f_X8_readTerm_5 q8 (n8 + 1) (nI d) s) fun _ s2 => zbd (pnd p s2) fun _ s3 => f_X8_readSum_5 (g_X8_readTerm q8) (n9 + 1) (nI d) s3) = zbd (g_X8_readTerm q8 (nI d) s1) fun _ s2 => zbd (pnd p' s2) fun _ s3 => f_X8_readSum_5 (g_X8_readTerm q8) n9 (nI d) s3 := fun s m hR hm => by
          obtain ⟨s1, g1, g2⟩ := cR s m hR hm
          obtain ⟨s2, t1, t2⟩ := nextS g1.1 hkN
          have q3 := g1.tr t2
          rw [List.append_nil] at q3
          refine ⟨s2, q3, ?_⟩
          have h9 := g1.1.2.2.2.2.2.1
          have hfun : (fun (_ : Unit) (s2 : zS) => zbd (pnd p' s2) fun _ s3 => f_X8_readSum_5 (g_X8_readTerm q8) n9 (nI d) s3) = fun _ s2 => zbd (f_X8_codes (nI (2999 + p')) s2) fun _ s3 => f_X8_readSum_5 (g_X8_readTerm q8) n9 (nI d) s3 := funext fun _ => funext fun s2 => by rw [hpn]
          rw [g2, rU5, is8 g1.1 (by decide), hfun]
          rcases hk' with q | q
          · subst q
            rw [if_pos hp', zbd_some, if_pos (by decide), f_X8_readSum_23, h9, if_neg (fun z => z (by rw [hp'])), f_X8_readSum_41, t1, zbd_some]
          · subst q
            rw [if_neg (by omega), zbd_some, if_neg (fun z => z rfl), is8 g1.1 (by decide), if_pos hp', zbd_some, if_neg (by decide), f_X8_readSum_23, h9, if_pos (by rw [hp']; decide), f_X8_readSum_41, t1, zbd_some]
        rcases hA (k + 1) (by omega) with ⟨kd, j, b1, b2, b3, bC, bR⟩ | ⟨k1, c1, o1, o2, o3, o4, oC, oR⟩
        · refine Or.inl ⟨kd, j, b1, b2, b3, fun s m hC hm h6 => ?_, fun s m hR hm h15 => ?_⟩
          · obtain ⟨s1, g1, g2⟩ := dC s m hC hm
            obtain ⟨s2, q1, q2⟩ := bC s1 _ g1.1 (g1.ww h6)
            refine ⟨s2, ?_, g1.bad q2⟩
            dsimp only
            rw [g2, q1, zbd_some, if_neg (fun z => z rfl)]
          · obtain ⟨s1, g1, g2⟩ := dR s m hR hm
            obtain ⟨s2, q1, q2⟩ := bR s1 _ g1.1 (g1.ww h15)
            have hdd := RB.dead q2 b1 b2
            refine ⟨s2, ?_, g1.bad q2⟩
            dsimp only
            rw [g2, g_X8_readTerm, q1, zbd_some, rT5_dead (by decide) hdd, zbd_some, pnd_dead hdd, zbd_some, rU5_dead (by omega) hdd]
        · have fC : ∀ s m, CT s b L N k m → m + (pcs p).length ≤ k → s.1 30 6 = nI w → ∃ s1, CS s s1 b L N k1 m (pcs p ++ c1) ∧ f_X3_readSum_38 q7 (f_X3_readSum_9 q7 (n7 + 1)) (nI d) (nI (v3c p)) (nI i) s = f_X3_readSum_38 q7 (f_X3_readSum_9 q7 n7) (nI d) (nI (v3c p')) (nI (i + 1)) s1 := fun s m hC hm h6 => by
            obtain ⟨s1, g1, g2⟩ := dC s m hC hm
            obtain ⟨s2, q1, q2⟩ := oC s1 _ g1.1 (g1.ww h6)
            refine ⟨s2, CS.tr g1 q2, ?_⟩
            rw [g2, q1, zbd_some, if_pos (by decide)]
          have fR : ∀ s m, RT s b L N k m → m + (pcs p).length ≤ k → s.1 76 15 = nI w → ∃ s1, RS s s1 b L N k1 m (pcs p ++ c1) ∧ (zbd (f_X8_readTerm_5 q8 (n8 + 1) (nI d) s) fun _ s2 => zbd (pnd p s2) fun _ s3 => f_X8_readSum_5 (g_X8_readTerm q8) (n9 + 1) (nI d) s3) = zbd (f_X8_readTerm_5 q8 zFU (nI d) s1) fun _ s2 => zbd (pnd p' s2) fun _ s3 => f_X8_readSum_5 (g_X8_readTerm q8) n9 (nI d) s3 := fun s m hR hm h15 => by
            obtain ⟨s1, g1, g2⟩ := dR s m hR hm
            obtain ⟨s2, q1, q2⟩ := oR s1 _ g1.1 (g1.ww h15)
            refine ⟨s2, RS.tr g1 q2, ?_⟩
            rw [g2, g_X8_readTerm, q1, zbd_some]
          have hl1 : (pcs p ++ c1).length = (pcs p).length + c1.length := List.length_append
          have hl2 : (pcs p').length = 1 := by rw [hpc]; rfl
          rcases ih k1 (by omega) (by omega) (by omega) p' (by omega) n7 zFU n9 (i + 1) (by omega) (by omega) (by omega) (by omega) with ⟨kd, j, b1, b2, b3, bC, bR⟩ | ⟨k2, c2, r1, r2, r3, r4, rC, rR⟩
          · refine Or.inl ⟨kd, j, b1, b2, b3, fun s m hC hm h6 => ?_, fun s m hR hm h15 => ?_⟩
            · obtain ⟨s1, g1, g2⟩ := fC s m hC hm h6
              obtain ⟨s2, q1, q2⟩ := bC s1 _ g1.1 (by omega) (g1.ww h6)
              exact ⟨s2, g2.trans q1, g1.bad q2⟩
            · obtain ⟨s1, g1, g2⟩ := fR s m hR hm h15
              obtain ⟨s2, q1, q2⟩ := bR s1 _ g1.1 (by omega) (g1.ww h15)
              exact ⟨s2, g2.trans q1, g1.bad q2⟩
          · refine Or.inr ⟨k2, (pcs p ++ c1) ++ c2, by omega, r2, by rw [List.length_append]; omega, fun st hst => ?_, fun s m hC hm h6 => ?_, fun s m hR hm h15 => ?_⟩
            · rw [zty_append, zty_append, pcs_ty hp, Option.bind_some, o4 (false :: st) (by rw [List.length_cons]; omega), Option.bind_some]
              have := r4 st hst
              rw [hpr] at this
              exact this
            · obtain ⟨s1, g1, g2⟩ := fC s m hC hm h6
              obtain ⟨s2, q1, q2⟩ := rC s1 _ g1.1 (by omega) (g1.ww h6)
              exact ⟨s2, g2.trans q1, g1.tr q2⟩
            · obtain ⟨s1, g1, g2⟩ := fR s m hR hm h15
              obtain ⟨s2, q1, q2⟩ := rR s1 _ g1.1 (by omega) (g1.ww h15)
              exact ⟨s2, g2.trans q1, g1.tr q2⟩
      · refine Or.inr ⟨k, pcs p, Nat.le_refl _, hk, by omega, fun st _ => pcs_ty hp st, fun s m hC hm h6 => ?_, fun s m hR hm h15 => ?_⟩
        · obtain ⟨s1, g1, g2⟩ := cC s m hC hm
          refine ⟨s1, ?_, g1⟩
          dsimp only
          rw [g2, f_X3_readSum_75, tok7 g1.1, Option.bind_some, if_neg (fun z => hpm (Or.inl (e32.mp z))), if_neg (fun z => hpm (Or.inr (e33.mp z)))]
        · obtain ⟨s1, g1, g2⟩ := cR s m hR hm
          refine ⟨s1, ?_, g1⟩
          dsimp only
          rw [g2, rU5, is8 g1.1 (by decide), if_neg (by omega), zbd_some, if_neg (fun z => z rfl), is8 g1.1 (by decide), if_neg (by omega), zbd_some, if_pos rfl]
theorem sum_both (hTN : TN b L N) {d h : Nat} {q7 : Int32 → zS → Option (Int32 × zS)} {q8 : Int32 → zS → Option (Unit × zS)} (hA : ∀ k, k ≤ N → BOTH (q7 (nI d)) (q8 (nI d)) b L N k w h false) (hk : k ≤ N) : BOTH (g_X3_readSum q7 (nI d)) (g_X8_readSum (g_X8_readTerm q8) (nI d)) b L N k w (h + 2) false := by
  have hN := hTN.2.1
  have hL := hTN.1
  have cC : ∀ s, g_X3_readSum q7 (nI d) s = zbd (q7 (nI d) s) fun r8 s9 => if ¬ r8 = 0 then (f_X3_readSum_38 q7 (f_X3_readSum_9 q7 4999) (nI d) (nI (v3c 0)) (nI 0) s9) else some ((0 : Int32), s9) := fun s => by
    rw [g_X3_readSum, show zFU = 4999 + 1 from rfl, rS9, if_neg (show ¬ nI 900 ≤ (0 : Int32) by decide)]
    rfl
  rcases hA k hk with ⟨kd, j, b1, b2, b3, bC, bR⟩ | ⟨k1, c1, o1, o2, o3, o4, oC, oR⟩
  · refine Or.inl ⟨kd, j, b1, b2, b3, fun s m hC h6 => ?_, fun s m hR h15 => ?_⟩
    · obtain ⟨s2, q1, q2⟩ := bC s m hC h6
      refine ⟨s2, ?_, q2⟩
      rw [cC, q1, zbd_some, if_neg (fun z => z rfl)]
    · obtain ⟨s2, q1, q2⟩ := bR s m hR h15
      have hdd := RB.dead q2 b1 b2
      refine ⟨s2, ?_, q2⟩
      rw [g_X8_readSum, g_X8_readTerm, q1, zbd_some, rT5_dead (by decide) hdd, zbd_some, rU5_dead (by decide) hdd]
  · rcases sum_rest hTN hA 1000 k1 o2 (by omega) (by decide) 0 (by decide) 4999 zFU zFU 0 (by decide) (by decide) (by decide) (by omega) with ⟨kd, j, b1, b2, b3, bC, bR⟩ | ⟨k2, c2, r1, r2, r3, r4, rC, rR⟩
    · refine Or.inl ⟨kd, j, b1, b2, b3, fun s m hC h6 => ?_, fun s m hR h15 => ?_⟩
      · obtain ⟨s1, g1, g2⟩ := oC s m hC h6
        have g2 : CS s s1 b L N k1 m c1 := g2
        obtain ⟨s2, q1, q2⟩ := bC s1 _ g2.1 g2.1.2.2.2.2.2.2 (g2.ww h6)
        refine ⟨s2, ?_, g2.bad q2⟩
        rw [cC, g1, zbd_some, if_pos (by decide)]
        exact q1
      · obtain ⟨s1, g1, g2⟩ := oR s m hR h15
        have g2 : RS s s1 b L N k1 m c1 := g2
        obtain ⟨s2, q1, q2⟩ := bR s1 _ g2.1 g2.1.2.2.2.2.2.2.2.2.2 (g2.ww h15)
        refine ⟨s2, ?_, g2.bad q2⟩
        rw [g_X8_readSum, g_X8_readTerm, g1, zbd_some]
        exact q1
    · have h0 : (pcs 0).length = 0 := rfl
      refine Or.inr ⟨k2, c1 ++ c2, by omega, r2, by rw [List.length_append]; omega, fun st hst => ?_, fun s m hC h6 => ?_, fun s m hR h15 => ?_⟩
      · rw [zty_append, o4 st (by omega), Option.bind_some]
        exact r4 st hst
      · obtain ⟨s1, g1, g2⟩ := oC s m hC h6
        have g2 : CS s s1 b L N k1 m c1 := g2
        obtain ⟨s2, q1, q2⟩ := rC s1 _ g2.1 g2.1.2.2.2.2.2.2 (g2.ww h6)
        refine ⟨s2, ?_, g2.tr q2⟩
        rw [cC, g1, zbd_some, if_pos (by decide)]
        exact q1
      · obtain ⟨s1, g1, g2⟩ := oR s m hR h15
        have g2 : RS s s1 b L N k1 m c1 := g2
        obtain ⟨s2, q1, q2⟩ := rR s1 _ g2.1 g2.1.2.2.2.2.2.2.2.2.2 (g2.ww h15)
        refine ⟨s2, ?_, g2.tr q2⟩
        rw [g_X8_readSum, g_X8_readTerm, g1, zbd_some]
        exact q1
/-- a sum at any depth -/
theorem expr_both (hTN : TN b L N) (hw : w < 2) : ∀ e d, d + e = 6 → ∀ f7 f8, 2 * e + 2 ≤ f7 → 3 * e + 3 ≤ f8 → ∀ k, k ≤ N → BOTH ((gg_X3_readAtom f7).2 (nI d)) ((gg_X8_readAtom f8).2.1 (nI d)) b L N k w (3 + 2 * e) false := by
  intro e
  induction e with
  | zero =>
    intro d hd f7 f8 h7 h8 k hk
    obtain ⟨f7, rfl⟩ : ∃ q, f7 = q + 2 := ⟨f7 - 2, by omega⟩
    obtain ⟨f8, rfl⟩ : ∃ q, f8 = q + 3 := ⟨f8 - 3, by omega⟩
    exact sum_both (h := 1) (q7 := g_X3_readAtom ((gg_X3_readAtom f7).2)) (q8 := g_X8_readAtom ((gg_X8_readAtom f8).2.1)) hTN (fun k hk => atom_both hTN (by omega) hw (by omega) (fun z => by omega) hk) hk
  | succ e ih =>
    intro d hd f7 f8 h7 h8 k hk
    obtain ⟨f7, rfl⟩ : ∃ q, f7 = q + 2 := ⟨f7 - 2, by omega⟩
    obtain ⟨f8, rfl⟩ : ∃ q, f8 = q + 3 := ⟨f8 - 3, by omega⟩
    have := sum_both (h := 3 + 2 * e) (q7 := g_X3_readAtom ((gg_X3_readAtom f7).2)) (q8 := g_X8_readAtom ((gg_X8_readAtom f8).2.1)) hTN (fun k hk => atom_both hTN (by omega) hw (by omega) (fun _ k hk => ih (d + 1) (by omega) f7 f8 (by omega) (by omega) k hk) hk) hk
    rw [show 3 + 2 * (e + 1) = 3 + 2 * e + 2 by omega]
    exact this
theorem expr_dead {f8 : Nat} (h8 : 3 ≤ f8) (v : Int32) : DEAD ((gg_X8_readAtom f8).2.1 v) := by
  obtain ⟨f8, rfl⟩ : ∃ q, f8 = q + 3 := ⟨f8 - 3, by omega⟩
  exact sum_dead (q8 := g_X8_readAtom ((gg_X8_readAtom f8).2.1)) (atom_dead v)
end SUM
