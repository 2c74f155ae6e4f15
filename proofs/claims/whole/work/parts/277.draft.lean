section DRAFT
variable {b : Nat → Nat} {L N k k1 k2 m w kd j : Nat} {s t u : zS} {cs ds : List Nat}
/-- a draft told so far: people, their fields (sign, mark, shyness, odds), who is with whom, the laws' starts, codes, told or not -/
abbrev DTY : Type := Nat × (Nat → Nat → Nat) × (Nat → Int32) × (Nat → Nat) × (Nat → List Nat) × (Nat → Bool)
def rbs (f : Nat) : Nat := if f = 0 then 29 else if f = 1 then 36 else if f = 2 then 8 else 15
def CF2 (s t : zS) : Prop := zk_k [30, 31, 32, 33, 34, 35, 36, 37] s t ∧ ∀ j, j ≠ 1 → j ≠ 2 → j ≠ 5 → j ≠ 6 → t.1 30 j = s.1 30 j
def RF2 (s t : zS) : Prop := zk_k [76, 80] s t ∧ ∀ j, j ≠ 6 → j ≠ 7 → j ≠ 9 → j ≠ 10 → j ≠ 11 → j ≠ 12 → j ≠ 15 → t.1 76 j = s.1 76 j
theorem CF2.rf : CF2 s s := ⟨zk_k.rf, fun _ _ _ _ _ => rfl⟩
theorem CF2.tr (h1 : CF2 s t) (h2 : CF2 t u) : CF2 s u := ⟨h1.1.tr h2.1, fun j a b c d => (h2.2 j a b c d).trans (h1.2 j a b c d)⟩
theorem RF2.rf : RF2 s s := ⟨zk_k.rf, fun _ _ _ _ _ _ _ _ => rfl⟩
theorem RF2.tr (h1 : RF2 s t) (h2 : RF2 t u) : RF2 s u := ⟨h1.1.tr h2.1, fun j a b c d e f g => (h2.2 j a b c d e f g).trans (h1.2 j a b c d e f g)⟩
theorem CF.c2 (h : CF s t) : CF2 s t := ⟨h.1.mono (by decide), fun j a b c _ => h.2.2 j a b c⟩
theorem RF.r2 (h : RF s t) : RF2 s t := ⟨h.1.mono (by decide), fun j a b c d e f _ => h.2.1 j a b c d e f⟩
theorem CF2.i (h : CF2 s t) {q j : Nat} {v : Int32} (hq : q ∈ [31, 32, 33, 34, 35, 36, 37]) : CF2 s (zs_i t q j v) := by
  have h30 : 30 ≠ q := fun z => by subst z; revert hq; decide
  exact ⟨h.1.i (List.mem_cons_of_mem _ hq), fun j a b c d => by rw [zs_i_n _ _ _ _ _ h30]; exact h.2 j a b c d⟩
theorem RF2.i (h : RF2 s t) {j : Nat} {v : Int32} : RF2 s (zs_i t 80 j v) := ⟨h.1.i (by decide), fun j a b c d e f g => by rw [zs_i_n _ _ _ _ _ (by decide)]; exact h.2 j a b c d e f g⟩
/-- the class's draft, the reference's -/
def DCx (s : zS) (ln : Nat) (X : DTY) : Prop := s.1 31 0 = nI X.1 ∧ s.1 31 1 = nI ln ∧ (∀ f p, f < 4 → p < X.1 → s.1 (32 + f) p = nI (X.2.1 f p)) ∧ (∀ p, p < 7 → s.1 36 p = X.2.2.1 p) ∧ ∀ w, w < 2 → (X.2.2.2.2.2 w = false → s.1 31 (9 + 2 * w) = 0 ∧ s.1 31 (10 + 2 * w) = 0) ∧ (X.2.2.2.2.2 w = true → s.1 31 (9 + 2 * w) = nI (X.2.2.2.1 w) ∧ s.1 31 (10 + 2 * w) = nI (X.2.2.2.1 w + (X.2.2.2.2.1 w).length) ∧ ∀ i, i < (X.2.2.2.2.1 w).length → s.1 37 (X.2.2.2.1 w + i) = nI (zenc ((X.2.2.2.2.1 w).getD i 0)))
def DR1 (s : zS) (ln : Nat) (X : DTY) : Prop := s.1 80 1 = nI X.1 ∧ s.1 80 0 = nI ln ∧ s.1 80 43 = 0 ∧ (∀ f p, f < 4 → p < X.1 → s.1 80 (rbs f + p) = nI (X.2.1 f p)) ∧ (∀ p, p < 7 → s.1 80 (22 + p) = X.2.2.1 p) ∧ ∀ w, w < 2 → (X.2.2.2.2.2 w = false → s.1 80 (2 + w) = 0) ∧ (X.2.2.2.2.2 w = true → s.1 80 (2 + w) = 1 ∧ s.1 80 (4 + w) = nI (X.2.2.2.1 w) ∧ s.1 80 (6 + w) = nI (X.2.2.2.2.1 w).length ∧ ∀ i, i < (X.2.2.2.2.1 w).length → s.1 80 (255 + X.2.2.2.1 w + i) = nI ((X.2.2.2.2.1 w).getD i 0))
def ZR (s : zS) (n : Nat) : Prop := ∀ f p, f < 3 → n ≤ p → p < 7 → s.1 80 (rbs f + p) = 0
def DR (s : zS) (ln : Nat) (X : DTY) : Prop := DR1 s ln X ∧ ZR s X.1
def DX (X : DTY) (m : Nat) : Prop := X.1 ≤ 7 ∧ (∀ p, p < X.1 → X.2.1 0 p < 512 ∧ X.2.1 1 p < 10 ∧ X.2.1 2 p ≤ 10 ∧ X.2.1 3 p < 10) ∧ zWV X.2.2.1 X.1 ∧ (∀ p, X.1 ≤ p → p < 7 → X.2.2.1 p = -1) ∧ ∀ w, w < 2 → X.2.2.2.2.2 w = true → X.2.2.2.1 w + (X.2.2.2.2.1 w).length ≤ m ∧ zty w (X.2.2.2.2.1 w) [] = some [decide (w = 0)]
def CB2 (s s' : zS) (b : Nat → Nat) (L kd j : Nat) : Prop := s'.1 30 1 = nI kd ∧ s'.1 30 2 = nI (lxB b L j) ∧ CF2 s s'
def RB2 (s s' : zS) (b : Nat → Nat) (L kd j : Nat) : Prop := s'.1 76 11 = nI kd ∧ s'.1 76 12 = nI (lxB b L j) ∧ RF2 s s'
theorem CB.c2 (h : CB s t b L kd j) : CB2 s t b L kd j := ⟨h.1, h.2.1, h.2.2.c2⟩
theorem RB.r2 (h : RB s t b L kd j) : RB2 s t b L kd j := ⟨h.1, h.2.1, h.2.2.r2⟩
theorem CB2.pre (h1 : CF2 s t) (h2 : CB2 t u b L kd j) : CB2 s u b L kd j := ⟨h2.1, h2.2.1, h1.tr h2.2.2⟩
theorem RB2.pre (h1 : RF2 s t) (h2 : RB2 t u b L kd j) : RB2 s u b L kd j := ⟨h2.1, h2.2.1, h1.tr h2.2.2⟩
theorem RB2.dead (h : RB2 s t b L kd j) (h0 : 0 < kd) (h5 : kd < 5) : ¬ t.1 76 11 = 0 := by
  rw [h.1]
  exact ne_of_nI (a := kd) (b := 0) (by omega) (by omega) (by omega)
/-- a line: both refuse it alike, or both go on with the same draft -/
def LNB (F : zS → Option (Int32 × zS)) (G : zS → Option (Unit × zS)) (PC PR : zS → Prop) (b : Nat → Nat) (L N k m ln : Nat) : Prop :=
  (∃ kd j, 0 < kd ∧ kd < 5 ∧ j ≤ N ∧ (∀ s, CT s b L N k m → PC s → ∃ s', F s = some (0, s') ∧ CB2 s s' b L kd j) ∧ (∀ s, RT s b L N k m → PR s → ∃ s', G s = some ((), s') ∧ RB2 s s' b L kd j)) ∨
  ∃ k2 m2 X2, k ≤ k2 ∧ k2 ≤ N ∧ DX X2 m2 ∧ (∀ s, CT s b L N k m → PC s → ∃ s', F s = some (1, s') ∧ CT s' b L N k2 m2 ∧ DCx s' ln X2 ∧ CF2 s s') ∧ (∀ s, RT s b L N k m → PR s → ∃ s', G s = some ((), s') ∧ RT s' b L N k2 m2 ∧ DR s' ln X2 ∧ RF2 s s')
/-- what a step leaves -/
theorem DCx.st {ln : Nat} {X : DTY} (hD : DCx s ln X) (hX : DX X m) (h : CS s t b L N k m cs) : DCx t ln X := by
  obtain ⟨h1, h2, h3, h4, h5⟩ := hD
  obtain ⟨-, -, c3, c4⟩ := h
  refine ⟨(c4.2.1 0 (by decide)).trans h1, (c4.2.1 1 (by decide)).trans h2, fun f p hf hp => ?_, fun p hp => ?_, fun w hw => ⟨fun e => ?_, fun e => ?_⟩⟩
  · rw [(c4.1 (32 + f) (by
      intro z
      simp only [List.mem_cons, List.not_mem_nil, or_false] at z
      omega)).1]
    exact h3 f p hf hp
  · rw [(c4.1 36 (by decide)).1]; exact h4 p hp
  · rw [c4.2.1 _ (by omega), c4.2.1 _ (by omega)]; exact (h5 w hw).1 e
  · obtain ⟨a1, a2, a3⟩ := (h5 w hw).2 e
    refine ⟨(c4.2.1 _ (by omega)).trans a1, (c4.2.1 _ (by omega)).trans a2, fun i hi => (c3 _ ?_).trans (a3 i hi)⟩
    have := ((hX.2.2.2.2 w hw) e).1
    omega
theorem rbs_r {f : Nat} (p : Nat) (hf : f < 4) (hp : p < 7) : 8 ≤ rbs f + p ∧ rbs f + p < 43 ∧ (rbs f + p < 22 ∨ 29 ≤ rbs f + p) := by
  unfold rbs
  split
  · omega
  · split
    · omega
    · split <;> omega
theorem rbs_i {f f2 : Nat} {p p2 : Nat} (hf : f < 4) (hf2 : f2 < 4) (hp : p < 7) (hp2 : p2 < 7) (h : rbs f + p = rbs f2 + p2) : f = f2 ∧ p = p2 := by
  rcases (show f = 0 ∨ f = 1 ∨ f = 2 ∨ f = 3 by omega) with q | q | q | q <;> rcases (show f2 = 0 ∨ f2 = 1 ∨ f2 = 2 ∨ f2 = 3 by omega) with r | r | r | r <;> subst q <;> subst r <;> simp [rbs] at h ⊢ <;> omega
theorem DR1.st {ln : Nat} {X : DTY} (hD : DR1 s ln X) (hX : DX X m) (h : RS s t b L N k m cs) : DR1 t ln X := by
  obtain ⟨h1, h2, h3, h4, h5, h6⟩ := hD
  obtain ⟨-, -, c3, c4⟩ := h
  have hn := hX.1
  refine ⟨(c4.2.2 1 (by decide)).trans h1, (c4.2.2 0 (by decide)).trans h2, (c4.2.2 43 (by decide)).trans h3, fun f p hf hp => ?_, fun p hp => ?_, fun w hw => ⟨fun e => ?_, fun e => ?_⟩⟩
  · have := rbs_r (f := f) p hf (by omega)
    rw [c4.2.2 _ (by omega)]; exact h4 f p hf hp
  · rw [c4.2.2 _ (by omega)]; exact h5 p hp
  · rw [c4.2.2 _ (by omega)]; exact (h6 w hw).1 e
  · obtain ⟨a1, a2, a3, a4⟩ := (h6 w hw).2 e
    refine ⟨(c4.2.2 _ (by omega)).trans a1, (c4.2.2 _ (by omega)).trans a2, (c4.2.2 _ (by omega)).trans a3, fun i hi => ?_⟩
    have := ((hX.2.2.2.2 w hw) e).1
    rw [Nat.add_assoc, c3 _ (by omega), ← Nat.add_assoc]
    exact a4 i hi
theorem ZR.st {n : Nat} (hD : ZR s n) (h : RS s t b L N k m cs) : ZR t n := fun f p hf hn hp => by
  have := rbs_r (f := f) p (by omega) hp
  rw [h.2.2.2.2.2 _ (by omega)]; exact hD f p hf hn hp
theorem DR.st {ln : Nat} {X : DTY} (hD : DR s ln X) (hX : DX X m) (h : RS s t b L N k m cs) : DR t ln X := ⟨hD.1.st hX h, hD.2.st h⟩
/-- numbers -/
theorem number7 (h : CT s b L N k m) {B : Nat} (hB : B < 1000) : (TK b L k = 23 → TV b L k ≤ B → ∃ s', f_X3_takeNumber (nI B) s = some (nI (TV b L k), s') ∧ CS s s' b L N (k + 1) m []) ∧ (TK b L k = 23 → B < TV b L k → ∃ s', f_X3_takeNumber (nI B) s = some (-1, s') ∧ CB s s' b L 3 k) ∧ (¬ TK b L k = 23 → ∃ s', f_X3_takeNumber (nI B) s = some (-1, s') ∧ CB s s' b L (fkd b L k 2) k) := by
  have hk := h.2.2.1
  have hlt := TC_lt h.1 hk
  have e1 := TC_1000 h.1 hk
  have e2 : TK b L k = 23 → TC b L k = TV b L k := fun e => by
    show lxK (TK b L k) (TV b L k) = _
    rw [e]; rfl
  refine ⟨fun e hv => ?_, fun e hv => ?_, fun e => ?_⟩
  · obtain ⟨s', g1, g2⟩ := stepS h (TK_N h.1 hk (by omega))
    have := e1.mpr e
    refine ⟨s', ?_, g2⟩
    rw [f_X3_takeNumber, tok7 h, Option.bind_some, if_neg (nI_ge (by omega) (by omega)), if_pos (nI_le (by rw [e2 e]; exact hv) (by omega)), g1, zbd_some, e2 e]
  · obtain ⟨s', g1, g2⟩ := refuseS h 3
    rw [fkd_n (by omega)] at g2
    have := e1.mpr e
    refine ⟨s', ?_, g2⟩
    rw [f_X3_takeNumber, tok7 h, Option.bind_some, if_neg (nI_ge (by omega) (by omega)), if_neg (nI_ge (by rw [e2 e]; exact hv) (by omega)), f_X3_takeNumber_22, if_pos (nI_lt this (by omega)), f_X3_takeNumber_35, g1, zbd_some]
  · obtain ⟨s', g1, g2⟩ := refuseS h 2
    have : 1000 ≤ TC b L k := Nat.le_of_not_lt (fun z => e (e1.mp z))
    refine ⟨s', ?_, g2⟩
    rw [f_X3_takeNumber, tok7 h, Option.bind_some, if_pos (nI_le this (by omega)), f_X3_takeNumber_22, if_neg (nI_nlt this (by omega)), f_X3_takeNumber_35, g1, zbd_some]
theorem takes_dead {v1 v2 : Int32} (h : ¬ s.1 76 11 = 0) : f_X8_takes v1 v2 s = some (s.1 76 10, s) := by
  rw [f_X8_takes, dead_is h, zbd_some, if_neg (fun z => z rfl), dead_fails h, zbd_some, f_X8_takes_37, zb_eq, if_pos h]; rfl
theorem takes8 (h : RT s b L N k m) {z : Nat} (hz : z < 1000) {v2 : Int32} (hv2 : v2 = nI z - 1) : (TK b L k = 23 → TV b L k < z → ∃ s', f_X8_takes 0 v2 s = some (nI (TV b L k), s') ∧ RS s s' b L N (k + 1) m []) ∧ (TK b L k = 23 → z ≤ TV b L k → ∃ r s', f_X8_takes 0 v2 s = some (r, s') ∧ RB s s' b L 3 k) ∧ (¬ TK b L k = 23 → ∃ r s', f_X8_takes 0 v2 s = some (r, s') ∧ RB s s' b L (fkd b L k 2) k) := by
  have hk := h.2.2.1
  subst hv2
  refine ⟨fun e hv => ?_, fun e hv => ?_, fun e => ?_⟩
  · have hkN := TK_N h.1 hk (by omega)
    have hV := (TK_r h.1 hkN).2 e
    obtain ⟨s', g1, g2⟩ := nextS h hkN
    have h10 := h.2.2.2.2.2.2.1 e
    refine ⟨s', ?_, g2⟩
    rw [f_X8_takes, is8 h (by decide), if_pos e, zbd_some, if_pos (by decide), show ((0 : Int32).toInt64) = 0 from rfl, h10, wi_sub _ _ (by omega), nI_toInt (by omega), if_pos (by omega), zbd_some, if_pos (by decide), f_X8_takes_37, zb_eq, if_neg (fun z => z h.2.2.2.2.2.2.2.1), g1, zbd_some, f_X8_takes_53, h10]
  · have hkN := TK_N h.1 hk (by omega)
    have hV := (TK_r h.1 hkN).2 e
    obtain ⟨s', g1, g2⟩ := failsS h 3
    rw [fkd_n (by omega)] at g2
    have hd := g2.dead (by decide) (by decide)
    have h10 := h.2.2.2.2.2.2.1 e
    refine ⟨s'.1 76 10, s', ?_, g2⟩
    rw [f_X8_takes, is8 h (by decide), if_pos e, zbd_some, if_pos (by decide), show ((0 : Int32).toInt64) = 0 from rfl, h10, wi_sub _ _ (by omega), nI_toInt (by omega), if_neg (by omega), zbd_some, if_neg (fun z => z rfl), g1, zbd_some, f_X8_takes_37, zb_eq, if_pos hd]; rfl
  · obtain ⟨s', g1, g2⟩ := failsS h 2
    have hf := fkd_r (b := b) (L := L) (k := k) (v := 2) (by decide) (by decide)
    have hd := g2.dead hf.1 hf.2
    refine ⟨s'.1 76 10, s', ?_, g2⟩
    rw [f_X8_takes, is8 h (by decide), if_neg e, zbd_some, if_neg (fun z => z rfl), g1, zbd_some, f_X8_takes_37, zb_eq, if_pos hd]; rfl
end DRAFT
