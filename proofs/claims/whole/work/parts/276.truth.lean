section TRUTH
variable {b : Nat → Nat} {L N k k1 k2 m w kd j p : Nat} {s t u : zS} {cs ds : List Nat}
/-- an 'or' that waits -/
def pcs2 (p : Nat) : List Nat := if p = 0 then [] else [3008]
def prb2 (p : Nat) : List Bool := if p = 0 then [] else [true]
def pnd2 (p : Nat) (s : zS) : Option (Unit × zS) := if p = 0 then some ((), s) else f_X8_codes (nI 3008) s
theorem pnd2_dead (h : ¬ s.1 76 11 = 0) : pnd2 p s = some ((), s) := by
  unfold pnd2
  by_cases e : p = 0
  · rw [if_pos e]
  · rw [if_neg e, dead_codes h]
theorem pendC2 (hp : p < 2) (h : CT s b L N k m) (hm : m + (pcs2 p).length ≤ k) : ∃ s', CS s s' b L N k m (pcs2 p) ∧ ∀ X : zS → Option (Int32 × zS), (if nI p = 0 then X s else zbd (f_X3_emit (nI 1207) s) fun _ s4 => X s4) = X s' := by
  by_cases e : p = 0
  · subst e
    exact ⟨s, CS.rf h, fun X => if_pos rfl⟩
  · have e1 : pcs2 p = [3008] := if_neg e
    rw [e1] at hm
    obtain ⟨s', g1, g2⟩ := emitS (c := 3008) (x := nI 1207) h hm rfl
    rw [e1]
    refine ⟨s', g2, fun X => ?_⟩
    rw [if_neg (show ¬ nI p = 0 from ne_of_nI (b := 0) e (by omega) (by omega)), g1, zbd_some]
theorem pendR2 (h : RT s b L N k m) (hm : m + (pcs2 p).length ≤ k) : ∃ s', RS s s' b L N k m (pcs2 p) ∧ pnd2 p s = some ((), s') := by
  by_cases e : p = 0
  · subst e
    exact ⟨s, RS.rf h, rfl⟩
  · have e1 : pcs2 p = [3008] := if_neg e
    rw [e1] at hm
    obtain ⟨s', g1, g2⟩ := codesS (c := 3008) (x := nI 3008) h hm rfl
    rw [e1]
    exact ⟨s', g2, by rw [pnd2, if_neg e, g1]⟩
theorem pcs2_ty (st : List Bool) : zty w (pcs2 p) (true :: prb2 p ++ st) = some (true :: st) := by
  by_cases e : p = 0
  · subst e; rfl
  · have e1 : pcs2 p = [3008] := if_neg e
    have e2 : prb2 p = [true] := if_neg e
    rw [e1, e2]
    exact ty_b (Or.inr rfl) st
theorem rV7 (q7 : Int32 → zS → Option (Int32 × zS)) (n : Nat) (v1 v2 v3 v4 : Int32) (s : zS) : f_X3_readTruth_7 q7 (n + 1) v1 v2 v3 v4 s = if (nI 900) ≤ v4 then (zbd (f_X3_refuse (nI 2) s) fun r6 s7 => if r6 = 0 ∨ r6 = 1 then some (r6, s7) else none) else zbd (q7 v1 s) fun r8 s9 => if ¬ r8 = 0 then (if v3 = 0 then (f_X3_readTruth_36 q7 (f_X3_readTruth_7 q7 n) v1 v2 v4 s9) else zbd (f_X3_emit (nI 1208) s9) fun _ s10 => f_X3_readTruth_36 q7 (f_X3_readTruth_7 q7 n) v1 v2 v4 s10) else some ((0 : Int32), s9) := rfl
theorem rW5 (q8 : Int32 → zS → Option (Unit × zS)) (n : Nat) (v1 : Int32) (s : zS) : f_X8_readBoth_5 q8 (n + 1) v1 s = zbd (f_X8_eats (nI 14) s) fun r1 s2 => if r1 = 0 then (some ((), s2)) else zbd (q8 v1 s2) fun _ s3 => zbd (f_X8_codes (nI 3007) s3) fun _ s4 => f_X8_readBoth_5 q8 n v1 s4 := rfl
theorem rX5 (q8 : Int32 → zS → Option (Unit × zS)) (n : Nat) (v1 : Int32) (s : zS) : f_X8_readTruth_5 q8 (n + 1) v1 s = zbd (f_X8_eats (nI 15) s) fun r1 s2 => if r1 = 0 then (some ((), s2)) else zbd (q8 v1 s2) fun _ s3 => zbd (f_X8_codes (nI 3008) s3) fun _ s4 => f_X8_readTruth_5 q8 n v1 s4 := rfl
theorem rW5_dead {q8 : Int32 → zS → Option (Unit × zS)} {n : Nat} (hn : 1 ≤ n) {v1 : Int32} (h : ¬ s.1 76 11 = 0) : f_X8_readBoth_5 q8 n v1 s = some ((), s) := by
  obtain ⟨n, rfl⟩ : ∃ q, n = q + 1 := ⟨n - 1, by omega⟩
  rw [rW5, dead_eats h, zbd_some, if_pos rfl]
theorem rX5_dead {q8 : Int32 → zS → Option (Unit × zS)} {n : Nat} (hn : 1 ≤ n) {v1 : Int32} (h : ¬ s.1 76 11 = 0) : f_X8_readTruth_5 q8 n v1 s = some ((), s) := by
  obtain ⟨n, rfl⟩ : ∃ q, n = q + 1 := ⟨n - 1, by omega⟩
  rw [rX5, dead_eats h, zbd_some, if_pos rfl]
theorem truth_dead {q8 : Int32 → zS → Option (Unit × zS)} {v : Int32} (hD : DEAD (q8 v)) : DEAD (g_X8_readTruth (g_X8_readBoth q8) v) := fun s h => by
  rw [g_X8_readTruth, g_X8_readBoth, hD s h, zbd_some, rW5_dead (by decide) h, zbd_some, rX5_dead (by decide) h]
theorem truth_rest (hTN : TN b L N) {d h : Nat} {q7 : Int32 → zS → Option (Int32 × zS)} {q8 : Int32 → zS → Option (Unit × zS)} (hA : ∀ k, k ≤ N → BOTH (q7 (nI d)) (q8 (nI d)) b L N k w h true) : ∀ n k, k ≤ N → N - k < n → n ≤ zFU → ∀ p, p < 2 → ∀ n7 n8 n9 i, n ≤ n7 → n ≤ n8 → n ≤ n9 → i + (N - k) < 900 →
    REST (fun s => f_X3_readTruth_36 q7 (f_X3_readTruth_7 q7 n7) (nI d) (nI p) (nI i) s) (fun s => zbd (f_X8_readBoth_5 q8 n8 (nI d) s) fun _ s2 => zbd (pnd2 p s2) fun _ s3 => f_X8_readTruth_5 (g_X8_readBoth q8) n9 (nI d) s3) b L N k w (pcs2 p).length (true :: prb2 p) (h + 2) true := by
  intro n
  induction n with
  | zero => intro k _ hlt; omega
  | succ n ih =>
    intro k hk hlt hfu p hp n7 n8 n9 i h7 h8 h9 hi
    have e14 : nI (TC b L k) = nI 1208 ↔ TK b L k = 14 := tcE hTN hk (by decide) (by decide) rfl
    have e15 : nI (TC b L k) = nI 1207 ↔ TK b L k = 15 := tcE hTN hk (by decide) (by decide) rfl
    have hpl : (prb2 p).length ≤ 1 := by
      unfold prb2
      by_cases e : p = 0
      · rw [if_pos e]; exact Nat.zero_le _
      · rw [if_neg e]; exact Nat.le_refl _
    obtain ⟨n7, rfl⟩ : ∃ q, n7 = q + 1 := ⟨n7 - 1, by omega⟩
    obtain ⟨n8, rfl⟩ : ∃ q, n8 = q + 1 := ⟨n8 - 1, by omega⟩
    obtain ⟨n9, rfl⟩ : ∃ q, n9 = q + 1 := ⟨n9 - 1, by omega⟩
    by_cases h14 : TK b L k = 14
    · have hkN := TK_N hTN hk (by omega)
      have cC : ∀ s m, CT s b L N k m → ∃ s1, CS s s1 b L N (k + 1) m [] ∧ f_X3_readTruth_36 q7 (f_X3_readTruth_7 q7 (n7 + 1)) (nI d) (nI p) (nI i) s = zbd (q7 (nI d) s1) fun r8 s9 => if ¬ r8 = 0 then (zbd (f_X3_emit (nI 1208) s9) fun _ s10 => f_X3_readTruth_36 q7 (f_X3_readTruth_7 q7 n7) (nI d) (nI p) (nI (i + 1)) s10) else some ((0 : Int32), s9) := fun s m hC => by
        obtain ⟨s1, g1, g2⟩ := stepS hC hkN
        refine ⟨s1, g2, ?_⟩
        rw [f_X3_readTruth_36, tok7 hC, Option.bind_some, if_neg (fun z => z (e14.mpr h14)), f_X3_readTruth_56, if_pos (by decide), f_X3_readTruth_99, g1, zbd_some, zb_eq, nI_1, rV7, if_neg (nI_ge (by omega) (by decide))]
        rfl
      have cR : ∀ s m, RT s b L N k m → ∃ s1, RS s s1 b L N (k + 1) m [] ∧ f_X8_readBoth_5 q8 (n8 + 1) (nI d) s = zbd (q8 (nI d) s1) fun _ s3 => zbd (f_X8_codes (nI 3007) s3) fun _ s4 => f_X8_readBoth_5 q8 n8 (nI d) s4 := fun s m hR => by
        obtain ⟨s1, g1, g2⟩ := (eatsS hR (x := 14) (by decide) (by decide)).1 h14
        refine ⟨s1, g2, ?_⟩
        rw [rW5, g1, zbd_some, if_neg (by decide)]
      rcases hA (k + 1) (by omega) with ⟨kd, j, b1, b2, b3, bC, bR⟩ | ⟨k1, c1, o1, o2, o3, o4, oC, oR⟩
      · refine Or.inl ⟨kd, j, b1, b2, b3, fun s m hC _ h6 => ?_, fun s m hR _ h15 => ?_⟩
        · obtain ⟨s1, g1, g2⟩ := cC s m hC
          obtain ⟨s2, q1, q2⟩ := bC s1 _ g1.1 (g1.ww h6)
          refine ⟨s2, ?_, g1.bad q2⟩
          dsimp only
          rw [g2, q1, zbd_some, if_neg (fun z => z rfl)]
        · obtain ⟨s1, g1, g2⟩ := cR s m hR
          obtain ⟨s2, q1, q2⟩ := bR s1 _ g1.1 (g1.ww h15)
          have hdd := RB.dead q2 b1 b2
          refine ⟨s2, ?_, g1.bad q2⟩
          dsimp only
          rw [g2, q1, zbd_some, dead_codes hdd, zbd_some, rW5_dead (by omega) hdd, zbd_some, pnd2_dead hdd, zbd_some, rX5_dead (by omega) hdd]
      · have dC : ∀ s m, CT s b L N k m → s.1 30 6 = nI w → ∃ s1, CS s s1 b L N k1 m (c1 ++ [3007]) ∧ f_X3_readTruth_36 q7 (f_X3_readTruth_7 q7 (n7 + 1)) (nI d) (nI p) (nI i) s = f_X3_readTruth_36 q7 (f_X3_readTruth_7 q7 n7) (nI d) (nI p) (nI (i + 1)) s1 := fun s m hC h6 => by
          have hmk := hC.2.2.2.2.2.2
          obtain ⟨s1, g1, g2⟩ := cC s m hC
          obtain ⟨s2, q1, q2⟩ := oC s1 _ g1.1 (g1.ww h6)
          have q3 := CS.tr g1 q2
          obtain ⟨s3, t1, t2⟩ := emitS (c := 3007) (x := nI 1208) q3.1 (by rw [List.nil_append]; omega) rfl
          refine ⟨s3, q3.tr t2, ?_⟩
          rw [g2, q1, zbd_some, if_pos (by decide), t1, zbd_some]
        have dR : ∀ s m, RT s b L N k m → s.1 76 15 = nI w → ∃ s1, RS s s1 b L N k1 m (c1 ++ [3007]) ∧ f_X8_readBoth_5 q8 (n8 + 1) (nI d) s = f_X8_readBoth_5 q8 n8 (nI d) s1 := fun s m hR h15 => by
          have hmk := hR.2.2.2.2.2.2.2.2.2
          obtain ⟨s1, g1, g2⟩ := cR s m hR
          obtain ⟨s2, q1, q2⟩ := oR s1 _ g1.1 (g1.ww h15)
          have q3 := RS.tr g1 q2
          obtain ⟨s3, t1, t2⟩ := codesS (c := 3007) (x := nI 3007) q3.1 (by rw [List.nil_append]; omega) rfl
          refine ⟨s3, q3.tr t2, ?_⟩
          rw [g2, q1, zbd_some, t1, zbd_some]
        have hl1 : (c1 ++ [3007]).length = c1.length + 1 := List.length_append
        rcases ih k1 (by omega) (by omega) (by omega) p hp n7 n8 (n9 + 1) (i + 1) (by omega) (by omega) (by omega) (by omega) with ⟨kd, j, b1, b2, b3, bC, bR⟩ | ⟨k2, c2, r1, r2, r3, r4, rC, rR⟩
        · refine Or.inl ⟨kd, j, b1, b2, b3, fun s m hC hm h6 => ?_, fun s m hR hm h15 => ?_⟩
          · obtain ⟨s1, g1, g2⟩ := dC s m hC h6
            obtain ⟨s2, q1, q2⟩ := bC s1 _ g1.1 (by omega) (g1.ww h6)
            exact ⟨s2, g2.trans q1, g1.bad q2⟩
          · obtain ⟨s1, g1, g2⟩ := dR s m hR h15
            obtain ⟨s2, q1, q2⟩ := bR s1 _ g1.1 (by omega) (g1.ww h15)
            refine ⟨s2, ?_, g1.bad q2⟩
            dsimp only at q1 ⊢
            rw [g2]
            exact q1
        · refine Or.inr ⟨k2, (c1 ++ [3007]) ++ c2, by omega, r2, by rw [List.length_append]; omega, fun st hst => ?_, fun s m hC hm h6 => ?_, fun s m hR hm h15 => ?_⟩
          · rw [zty_append, zty_append, show true :: prb2 p ++ st = true :: (prb2 p ++ st) from rfl, o4 (true :: (prb2 p ++ st)) (by rw [List.length_cons, List.length_append]; omega), Option.bind_some, ty_b (by omega), Option.bind_some]
            exact r4 st hst
          · obtain ⟨s1, g1, g2⟩ := dC s m hC h6
            obtain ⟨s2, q1, q2⟩ := rC s1 _ g1.1 (by omega) (g1.ww h6)
            exact ⟨s2, g2.trans q1, g1.tr q2⟩
          · obtain ⟨s1, g1, g2⟩ := dR s m hR h15
            obtain ⟨s2, q1, q2⟩ := rR s1 _ g1.1 (by omega) (g1.ww h15)
            refine ⟨s2, ?_, g1.tr q2⟩
            dsimp only at q1 ⊢
            rw [g2]
            exact q1
    · have cC : ∀ s m, CT s b L N k m → m + (pcs2 p).length ≤ k → ∃ s1, CS s s1 b L N k m (pcs2 p) ∧ f_X3_readTruth_36 q7 (f_X3_readTruth_7 q7 (n7 + 1)) (nI d) (nI p) (nI i) s = f_X3_readTruth_72 q7 (f_X3_readTruth_7 q7 (n7 + 1)) (nI d) 0 (nI i) s1 := fun s m hC hm => by
        obtain ⟨s1, g1, g2⟩ := pendC2 hp hC hm
        refine ⟨s1, g1, ?_⟩
        rw [f_X3_readTruth_36, tok7 hC, Option.bind_some, if_pos (fun z => h14 (e14.mp z)), f_X3_readTruth_56, if_neg (fun z => z rfl)]
        exact g2 _
      have cR : ∀ s m, RT s b L N k m → m + (pcs2 p).length ≤ k → ∃ s1, RS s s1 b L N k m (pcs2 p) ∧ (zbd (f_X8_readBoth_5 q8 (n8 + 1) (nI d) s) fun _ s2 => zbd (pnd2 p s2) fun _ s3 => f_X8_readTruth_5 (g_X8_readBoth q8) (n9 + 1) (nI d) s3) = f_X8_readTruth_5 (g_X8_readBoth q8) (n9 + 1) (nI d) s1 := fun s m hR hm => by
        obtain ⟨s1, g1, g2⟩ := pendR2 hR hm
        refine ⟨s1, g1, ?_⟩
        rw [rW5, (eatsS hR (x := 14) (by decide) (by decide)).2 h14, zbd_some, if_pos rfl, zbd_some, g2, zbd_some]
      by_cases hpm : TK b L k = 15
      · have hkN := TK_N hTN hk (by omega)
        have dC : ∀ s m, CT s b L N k m → m + (pcs2 p).length ≤ k → ∃ s1, CS s s1 b L N (k + 1) m (pcs2 p) ∧ f_X3_readTruth_36 q7 (f_X3_readTruth_7 q7 (n7 + 1)) (nI d) (nI p) (nI i) s = zbd (q7 (nI d) s1) fun r8 s9 => if ¬ r8 = 0 then (f_X3_readTruth_36 q7 (f_X3_readTruth_7 q7 n7) (nI d) (nI 1) (nI (i + 1)) s9) else some ((0 : Int32), s9) := fun s m hC hm => by
          obtain ⟨s1, g1, g2⟩ := cC s m hC hm
          obtain ⟨s2, t1, t2⟩ := stepS g1.1 hkN
          have q3 := g1.tr t2
          rw [List.append_nil] at q3
          refine ⟨s2, q3, ?_⟩
          rw [g2, f_X3_readTruth_72, tok7 g1.1, Option.bind_some, if_neg (fun z => z (e15.mpr hpm)), f_X3_readTruth_92, if_pos (by decide), f_X3_readTruth_99, t1, zbd_some, zb_eq, nI_1, rV7, if_neg (nI_ge (by omega) (by decide))]
          rfl
        have dR : ∀ s m, RT s b L N k m → m + (pcs2 p).length ≤ k → ∃ s1, RS s s1 b L N (k + 1) m (pcs2 p) ∧ (zbd (f_X8_readBoth_5 q8 (n8 + 1) (nI d) s) fun _ s2 => zbd (pnd2 p s2) fun _ s3 => f_X8_readTruth_5 (g_X8_readBoth q8) (n9 + 1) (nI d) s3) = zbd (g_X8_readBoth q8 (nI d) s1) fun _ s2 => zbd (pnd2 1 s2) fun _ s3 => f_X8_readTruth_5 (g_X8_readBoth q8) n9 (nI d) s3 := fun s m hR hm => by
          obtain ⟨s1, g1, g2⟩ := cR s m hR hm
          obtain ⟨s2, t1, t2⟩ := (eatsS g1.1 (x := 15) (by decide) (by decide)).1 hpm
          have q3 := g1.tr t2
          rw [List.append_nil] at q3
          refine ⟨s2, q3, ?_⟩
          rw [g2, rX5, t1, zbd_some, if_neg (by decide)]
          rfl
        rcases hA (k + 1) (by omega) with ⟨kd, j, b1, b2, b3, bC, bR⟩ | ⟨k1, c1, o1, o2, o3, o4, oC, oR⟩
        · refine Or.inl ⟨kd, j, b1, b2, b3, fun s m hC hm h6 => ?_, fun s m hR hm h15 => ?_⟩
          · obtain ⟨s1, g1, g2⟩ := dC s m hC hm
            obtain ⟨s2, q1, q2⟩ := bC s1 _ g1.1 (g1.ww h6)
            refine ⟨s2, ?_, g1.bad q2⟩
            dsimp only
            rw [g2, q1, zbd_some, if_neg (fun z => z rfl)]
          · obtain ⟨s1, g1, g2⟩ := dR s m hR hm
            obtain ⟨s2, q1, q2⟩ := bR s1 _ g1.1 (g1.ww h15)
            have hdd := RB.dead q2 b1 b2
            refine ⟨s2, ?_, g1.bad q2⟩
            dsimp only
            rw [g2, g_X8_readBoth, q1, zbd_some, rW5_dead (by decide) hdd, zbd_some, pnd2_dead hdd, zbd_some, rX5_dead (by omega) hdd]
        · have fC : ∀ s m, CT s b L N k m → m + (pcs2 p).length ≤ k → s.1 30 6 = nI w → ∃ s1, CS s s1 b L N k1 m (pcs2 p ++ c1) ∧ f_X3_readTruth_36 q7 (f_X3_readTruth_7 q7 (n7 + 1)) (nI d) (nI p) (nI i) s = f_X3_readTruth_36 q7 (f_X3_readTruth_7 q7 n7) (nI d) (nI 1) (nI (i + 1)) s1 := fun s m hC hm h6 => by
            obtain ⟨s1, g1, g2⟩ := dC s m hC hm
            obtain ⟨s2, q1, q2⟩ := oC s1 _ g1.1 (g1.ww h6)
            refine ⟨s2, CS.tr g1 q2, ?_⟩
            rw [g2, q1, zbd_some, if_pos (by decide)]
          have fR : ∀ s m, RT s b L N k m → m + (pcs2 p).length ≤ k → s.1 76 15 = nI w → ∃ s1, RS s s1 b L N k1 m (pcs2 p ++ c1) ∧ (zbd (f_X8_readBoth_5 q8 (n8 + 1) (nI d) s) fun _ s2 => zbd (pnd2 p s2) fun _ s3 => f_X8_readTruth_5 (g_X8_readBoth q8) (n9 + 1) (nI d) s3) = zbd (f_X8_readBoth_5 q8 zFU (nI d) s1) fun _ s2 => zbd (pnd2 1 s2) fun _ s3 => f_X8_readTruth_5 (g_X8_readBoth q8) n9 (nI d) s3 := fun s m hR hm h15 => by
            obtain ⟨s1, g1, g2⟩ := dR s m hR hm
            obtain ⟨s2, q1, q2⟩ := oR s1 _ g1.1 (g1.ww h15)
            refine ⟨s2, RS.tr g1 q2, ?_⟩
            rw [g2, g_X8_readBoth, q1, zbd_some]
          have hl1 : (pcs2 p ++ c1).length = (pcs2 p).length + c1.length := List.length_append
          have hl2 : (pcs2 1).length = 1 := rfl
          rcases ih k1 (by omega) (by omega) (by omega) 1 (by omega) n7 zFU n9 (i + 1) (by omega) (by omega) (by omega) (by omega) with ⟨kd, j, b1, b2, b3, bC, bR⟩ | ⟨k2, c2, r1, r2, r3, r4, rC, rR⟩
          · refine Or.inl ⟨kd, j, b1, b2, b3, fun s m hC hm h6 => ?_, fun s m hR hm h15 => ?_⟩
            · obtain ⟨s1, g1, g2⟩ := fC s m hC hm h6
              obtain ⟨s2, q1, q2⟩ := bC s1 _ g1.1 (by omega) (g1.ww h6)
              exact ⟨s2, g2.trans q1, g1.bad q2⟩
            · obtain ⟨s1, g1, g2⟩ := fR s m hR hm h15
              obtain ⟨s2, q1, q2⟩ := bR s1 _ g1.1 (by omega) (g1.ww h15)
              exact ⟨s2, g2.trans q1, g1.bad q2⟩
          · refine Or.inr ⟨k2, (pcs2 p ++ c1) ++ c2, by omega, r2, by rw [List.length_append]; omega, fun st hst => ?_, fun s m hC hm h6 => ?_, fun s m hR hm h15 => ?_⟩
            · rw [zty_append, zty_append, pcs2_ty, Option.bind_some, o4 (true :: st) (by rw [List.length_cons]; omega), Option.bind_some]
              exact r4 st hst
            · obtain ⟨s1, g1, g2⟩ := fC s m hC hm h6
              obtain ⟨s2, q1, q2⟩ := rC s1 _ g1.1 (by omega) (g1.ww h6)
              exact ⟨s2, g2.trans q1, g1.tr q2⟩
            · obtain ⟨s1, g1, g2⟩ := fR s m hR hm h15
              obtain ⟨s2, q1, q2⟩ := rR s1 _ g1.1 (by omega) (g1.ww h15)
              exact ⟨s2, g2.trans q1, g1.tr q2⟩
      · refine Or.inr ⟨k, pcs2 p, Nat.le_refl _, hk, by omega, fun st _ => pcs2_ty st, fun s m hC hm h6 => ?_, fun s m hR hm h15 => ?_⟩
        · obtain ⟨s1, g1, g2⟩ := cC s m hC hm
          refine ⟨s1, ?_, g1⟩
          dsimp only
          rw [g2, f_X3_readTruth_72, tok7 g1.1, Option.bind_some, if_pos (fun z => hpm (e15.mp z)), f_X3_readTruth_92, if_neg (fun z => z rfl)]
        · obtain ⟨s1, g1, g2⟩ := cR s m hR hm
          refine ⟨s1, ?_, g1⟩
          dsimp only
          rw [g2, rX5, (eatsS g1.1 (x := 15) (by decide) (by decide)).2 hpm, zbd_some, if_pos rfl]
theorem truth_both (hTN : TN b L N) {d h : Nat} {q7 : Int32 → zS → Option (Int32 × zS)} {q8 : Int32 → zS → Option (Unit × zS)} (hA : ∀ k, k ≤ N → BOTH (q7 (nI d)) (q8 (nI d)) b L N k w h true) (hk : k ≤ N) : BOTH (g_X3_readTruth q7 (nI d)) (g_X8_readTruth (g_X8_readBoth q8) (nI d)) b L N k w (h + 2) true := by
  have hN := hTN.2.1
  have hL := hTN.1
  have cC : ∀ s, g_X3_readTruth q7 (nI d) s = zbd (q7 (nI d) s) fun r8 s9 => if ¬ r8 = 0 then (f_X3_readTruth_36 q7 (f_X3_readTruth_7 q7 4999) (nI d) (nI 0) (nI 0) s9) else some ((0 : Int32), s9) := fun s => by
    rw [g_X3_readTruth, show zFU = 4999 + 1 from rfl, rV7, if_neg (show ¬ nI 900 ≤ (0 : Int32) by decide)]
    rfl
  rcases hA k hk with ⟨kd, j, b1, b2, b3, bC, bR⟩ | ⟨k1, c1, o1, o2, o3, o4, oC, oR⟩
  · refine Or.inl ⟨kd, j, b1, b2, b3, fun s m hC h6 => ?_, fun s m hR h15 => ?_⟩
    · obtain ⟨s2, q1, q2⟩ := bC s m hC h6
      refine ⟨s2, ?_, q2⟩
      rw [cC, q1, zbd_some, if_neg (fun z => z rfl)]
    · obtain ⟨s2, q1, q2⟩ := bR s m hR h15
      have hdd := RB.dead q2 b1 b2
      refine ⟨s2, ?_, q2⟩
      rw [g_X8_readTruth, g_X8_readBoth, q1, zbd_some, rW5_dead (by decide) hdd, zbd_some, rX5_dead (by decide) hdd]
  · rcases truth_rest hTN hA 1000 k1 o2 (by omega) (by decide) 0 (by decide) 4999 zFU zFU 0 (by decide) (by decide) (by decide) (by omega) with ⟨kd, j, b1, b2, b3, bC, bR⟩ | ⟨k2, c2, r1, r2, r3, r4, rC, rR⟩
    · refine Or.inl ⟨kd, j, b1, b2, b3, fun s m hC h6 => ?_, fun s m hR h15 => ?_⟩
      · obtain ⟨s1, g1, g2⟩ := oC s m hC h6
        have g2 : CS s s1 b L N k1 m c1 := g2
        obtain ⟨s2, q1, q2⟩ := bC s1 _ g2.1 g2.1.2.2.2.2.2.2 (g2.ww h6)
        refine ⟨s2, ?_, g2.bad q2⟩
        rw [cC, g1, zbd_some, if_pos (by decide)]
        exact q1
      · obtain ⟨s1, g1, g2⟩ := oR s m hR h15
        have g2 : RS s s1 b L N k1 m c1 := g2
        obtain ⟨s2, q1, q2⟩ := bR s1 _ g2.1 g2.1.2.2.2.2.2.2.2.2.2 (g2.ww h15)
        refine ⟨s2, ?_, g2.bad q2⟩
        rw [g_X8_readTruth, g_X8_readBoth, g1, zbd_some]
        exact q1
    · have h0 : (pcs2 0).length = 0 := rfl
      refine Or.inr ⟨k2, c1 ++ c2, by omega, r2, by rw [List.length_append]; omega, fun st hst => ?_, fun s m hC h6 => ?_, fun s m hR h15 => ?_⟩
      · rw [zty_append, o4 st (by omega), Option.bind_some]
        exact r4 st hst
      · obtain ⟨s1, g1, g2⟩ := oC s m hC h6
        have g2 : CS s s1 b L N k1 m c1 := g2
        obtain ⟨s2, q1, q2⟩ := rC s1 _ g2.1 g2.1.2.2.2.2.2.2 (g2.ww h6)
        refine ⟨s2, ?_, g2.tr q2⟩
        rw [cC, g1, zbd_some, if_pos (by decide)]
        exact q1
      · obtain ⟨s1, g1, g2⟩ := oR s m hR h15
        have g2 : RS s s1 b L N k1 m c1 := g2
        obtain ⟨s2, q1, q2⟩ := rR s1 _ g2.1 g2.1.2.2.2.2.2.2.2.2.2 (g2.ww h15)
        refine ⟨s2, ?_, g2.tr q2⟩
        rw [g_X8_readTruth, g_X8_readBoth, g1, zbd_some]
        exact q1
/-- a unit at any depth -/
theorem units_both (hTN : TN b L N) (hw : w < 2) : ∀ e d, d + e = 6 → ∀ f7 f8, 2 * e + 1 ≤ f7 → 3 * e + 1 ≤ f8 → ∀ k, k ≤ N → BOTH ((gg_X3_readTruth f7).2 (nI d)) ((gg_X8_readBoth f8).2.2 (nI d)) b L N k w (4 + 2 * e) true := by
  intro e
  induction e with
  | zero =>
    intro d hd f7 f8 h7 h8 k hk
    obtain ⟨f7, rfl⟩ : ∃ q, f7 = q + 1 := ⟨f7 - 1, by omega⟩
    obtain ⟨f8, rfl⟩ : ∃ q, f8 = q + 1 := ⟨f8 - 1, by omega⟩
    exact unit_both (qt7 := (gg_X3_readTruth f7).1) (qu7 := (gg_X3_readTruth f7).2) (qt8 := (gg_X8_readBoth f8).2.1) (qu8 := (gg_X8_readBoth f8).2.2) hTN (by omega) (hs := 3) (by omega) (fun k hk => expr_both hTN hw 0 d hd zDP zDP (by decide) (by decide) k hk) (fun z => by omega) (fun z => by omega) hk
  | succ e ih =>
    intro d hd f7 f8 h7 h8 k hk
    obtain ⟨f7, rfl⟩ : ∃ q, f7 = q + 2 := ⟨f7 - 2, by omega⟩
    obtain ⟨f8, rfl⟩ : ∃ q, f8 = q + 3 := ⟨f8 - 3, by omega⟩
    refine unit_both (qt7 := (gg_X3_readTruth (f7 + 1)).1) (qu7 := (gg_X3_readTruth (f7 + 1)).2) (qt8 := (gg_X8_readBoth (f8 + 2)).2.1) (qu8 := (gg_X8_readBoth (f8 + 2)).2.2) hTN (by omega) (hs := 3 + 2 * (e + 1)) (by omega) (fun k hk => expr_both hTN hw (e + 1) d hd zDP zDP (by have : zDP = 64 := rfl; omega) (by have : zDP = 64 := rfl; omega) k hk) (fun _ k hk => ?_) (fun _ k hk => ?_) hk
    · have := truth_both (h := 4 + 2 * e) (d := d + 1) (q7 := (gg_X3_readTruth f7).2) (q8 := (gg_X8_readBoth f8).2.2) hTN (fun k hk => ih (d + 1) (by omega) f7 f8 (by omega) (by omega) k hk) hk
      rw [show 4 + 2 * (e + 1) = 4 + 2 * e + 2 by omega]
      exact this
    · exact (ih (d + 1) (by omega) (f7 + 1) (f8 + 2) (by omega) (by omega) k hk).mono (by omega)
/-- the two laws' bodies: a truth, a sum -/
theorem truth0 (hTN : TN b L N) (hw : w < 2) (hk : k ≤ N) : BOTH (f_X3_readTruth zDP 0) (f_X8_readTruth zDP 0) b L N k w 18 true :=
  truth_both (h := 16) (d := 0) (q7 := (gg_X3_readTruth 63).2) (q8 := (gg_X8_readBoth 62).2.2) hTN (fun k hk => units_both hTN hw 6 0 rfl 63 62 (by decide) (by decide) k hk) hk
theorem sum0 (hTN : TN b L N) (hw : w < 2) (hk : k ≤ N) : BOTH (f_X3_readSum zDP 0) (f_X8_readSum zDP 0) b L N k w 15 false := expr_both hTN hw 6 0 rfl zDP zDP (by decide) (by decide) k hk
theorem truth0_dead : DEAD (f_X8_readTruth zDP 0) := truth_dead (q8 := (gg_X8_readBoth 62).2.2) (unit_dead (gg_X8_readBoth 61).2.1 (gg_X8_readBoth 61).2.2 0)
theorem sum0_dead : DEAD (f_X8_readSum zDP 0) := fun _ h => rsum_dead 0 h
end TRUTH
