/-- what a rule may change: of the class, of the reference -/
def CF (s t : zS) : Prop := zk_k [30, 31, 37] s t ∧ (∀ j, j ≠ 8 → t.1 31 j = s.1 31 j) ∧ ∀ j, j ≠ 1 → j ≠ 2 → j ≠ 5 → t.1 30 j = s.1 30 j
def RF (s t : zS) : Prop := zk_k [76, 80] s t ∧ (∀ j, j ≠ 6 → j ≠ 7 → j ≠ 9 → j ≠ 10 → j ≠ 11 → j ≠ 12 → t.1 76 j = s.1 76 j) ∧ ∀ j, j < 254 → t.1 80 j = s.1 80 j
theorem CF.rf {s : zS} : CF s s := ⟨zk_k.rf, fun _ _ => rfl, fun _ _ _ _ => rfl⟩
theorem CF.tr {s t u : zS} (h1 : CF s t) (h2 : CF t u) : CF s u := ⟨h1.1.tr h2.1, fun j h => (h2.2.1 j h).trans (h1.2.1 j h), fun j a b c => (h2.2.2 j a b c).trans (h1.2.2 j a b c)⟩
theorem RF.rf {s : zS} : RF s s := ⟨zk_k.rf, fun _ _ _ _ _ _ _ => rfl, fun _ _ => rfl⟩
theorem RF.tr {s t u : zS} (h1 : RF s t) (h2 : RF t u) : RF s u := ⟨h1.1.tr h2.1, fun j a b c d e f => (h2.2.1 j a b c d e f).trans (h1.2.1 j a b c d e f), fun j h => (h2.2.2 j h).trans (h1.2.2 j h)⟩
theorem RX.r {s t : zS} (h : RX s t) : RF s t := ⟨h.1.mono (by decide), fun j a b c d _ _ => h.2 j a b c d, fun j _ => by rw [(h.1 80 (by decide)).1]⟩
/-- a rule that fails at token j with kind kd: the class answers 0, the reference is dead -/
def C7b (F : zS → Option (Int32 × zS)) (b : Nat → Nat) (L N k w kd j : Nat) : Prop := ∀ s m, CT s b L N k m → s.1 30 6 = nI w → ∃ s', F s = some (0, s') ∧ s'.1 30 1 = nI kd ∧ s'.1 30 2 = nI (lxB b L j) ∧ CF s s'
def R8b (F : zS → Option (Unit × zS)) (b : Nat → Nat) (L N k w kd j : Nat) : Prop := ∀ s m, RT s b L N k m → s.1 76 15 = nI w → ∃ s', F s = some ((), s') ∧ s'.1 76 11 = nI kd ∧ s'.1 76 12 = nI (lxB b L j) ∧ RF s s'
/-- a rule that goes on to token k2 with codes cs -/
def C7o (F : zS → Option (Int32 × zS)) (b : Nat → Nat) (L N k w k2 : Nat) (cs : List Nat) : Prop := ∀ s m, CT s b L N k m → s.1 30 6 = nI w → ∃ s', F s = some (1, s') ∧ CT s' b L N k2 (m + cs.length) ∧ (∀ i, i < cs.length → s'.1 37 (m + i) = nI (zenc (cs.getD i 0))) ∧ (∀ i, i < m → s'.1 37 i = s.1 37 i) ∧ CF s s'
def R8o (F : zS → Option (Unit × zS)) (b : Nat → Nat) (L N k w k2 : Nat) (cs : List Nat) : Prop := ∀ s m, RT s b L N k m → s.1 76 15 = nI w → ∃ s', F s = some ((), s') ∧ RT s' b L N k2 (m + cs.length) ∧ (∀ i, i < cs.length → s'.1 80 (255 + m + i) = nI (cs.getD i 0)) ∧ (∀ i, i < m → s'.1 80 (255 + i) = s.1 80 (255 + i)) ∧ RF s s'
/-- both answer alike; codes have the type y, on any stack that leaves them h places -/
def BOTH (F : zS → Option (Int32 × zS)) (G : zS → Option (Unit × zS)) (b : Nat → Nat) (L N k w h : Nat) (y : Bool) : Prop := (∃ kd j, 0 < kd ∧ kd < 5 ∧ j ≤ N ∧ C7b F b L N k w kd j ∧ R8b G b L N k w kd j) ∨ ∃ k2 cs, k < k2 ∧ k2 ≤ N ∧ cs.length ≤ k2 - k ∧ (∀ st : List Bool, st.length + h ≤ 32 → zty w cs st = some (y :: st)) ∧ C7o F b L N k w k2 cs ∧ R8o G b L N k w k2 cs
