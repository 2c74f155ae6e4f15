/-- codes of a law: the reference's numbers, and the class's -/
def zenc (k : Nat) : Nat := if k < 1000 then k else if k = 1000 then 1210 else if k = 1001 then 1211 else if k = 1002 then 1212 else if k = 1003 then 1213 else if k = 1004 then 1215 else if k = 1005 then 1214 else if k = 1006 then 1216 else if k = 3000 then 1102 else if k = 3001 then 1103 else if k = 3002 then 1104 else if k = 3003 then 1109 else if k = 3004 then 1110 else if k = 3005 then 1111 else if k = 3006 then 1209 else if k = 3007 then 1208 else 1207
/-- which names a law may use -/
def zword (w k : Nat) : Bool := k < 1000 || k == 1000 || k == 1001 || (if w = 0 then k == 1002 else k == 1003 || k == 1004 || k == 1005 || k == 1006)
def zt1 (k : List Bool → Option (List Bool)) (st : List Bool) : Option (List Bool) := match st with
  | true :: r => k (true :: r)
  | _ => none
def zt2 (x y : Bool) (k : List Bool → Option (List Bool)) (st : List Bool) : Option (List Bool) := match st with
  | a :: b :: r => if a = x ∧ b = x then k (y :: r) else none
  | _ => none
/-- the kinds on the stack, truths are true: codes that go through -/
def zty (w : Nat) : List Nat → List Bool → Option (List Bool)
  | [], st => some st
  | c :: l, st =>
    if zword w c then (if st.length < 32 then zty w l (false :: st) else none)
    else if c = 3006 then zt1 (zty w l) st
    else if c = 3000 ∨ c = 3001 ∨ c = 3002 then zt2 false false (zty w l) st
    else if c = 3003 ∨ c = 3004 ∨ c = 3005 then zt2 false true (zty w l) st
    else if c = 3007 ∨ c = 3008 then zt2 true true (zty w l) st
    else none
theorem zt1_some {k : List Bool → Option (List Bool)} {st q : List Bool} (h : zt1 k st = some q) : ∃ r, st = true :: r ∧ k (true :: r) = some q := by
  unfold zt1 at h
  split at h
  · exact ⟨_, rfl, h⟩
  · cases h
theorem zt2_some {x y : Bool} {k : List Bool → Option (List Bool)} {st q : List Bool} (h : zt2 x y k st = some q) : ∃ r, st = x :: x :: r ∧ k (y :: r) = some q := by
  unfold zt2 at h
  split at h
  · split at h
    · rename_i e
      obtain ⟨rfl, rfl⟩ := e
      exact ⟨_, rfl, h⟩
    · cases h
  · cases h
/-- a law w (0 fits, 1 likes) of both: none told, or the same codes -/
def zRL (a f co : Nat → Int32) (w : Nat) (cs : List Nat) : Prop :=
  (a (2 + w) = 0 ∧ f (9 + 2 * w) = f (10 + 2 * w) ∧ cs = []) ∨
  (a (2 + w) = 1 ∧ zty w cs [] = some [decide (w = 0)] ∧ ∃ F C : Nat, F + cs.length ≤ 900 ∧ C + cs.length ≤ 900 ∧ a (4 + w) = nI F ∧ a (6 + w) = nI cs.length ∧ f (9 + 2 * w) = nI C ∧ f (10 + 2 * w) = nI (C + cs.length) ∧ ∀ i, i < cs.length → a (255 + F + i) = nI (cs.getD i 0) ∧ co (C + i) = nI (zenc (cs.getD i 0)))
/-- who is with whom -/
def zWV (w : Nat → Int32) (n : Nat) : Prop := ∀ p, p < n → w p = -1 ∨ ∃ q, q < n ∧ q ≠ p ∧ w p = nI q ∧ w q = nI p
/-- a society of both: n people, signs G, marks M, shyness H, odds D, the laws' codes -/
def zRS (a f sg mk sh od wi co : Nat → Int32) (n : Nat) (G M H D : Nat → Nat) (c0 c1 : List Nat) : Prop :=
  (n ≤ 7 ∧ a 1 = nI n ∧ f 0 = nI n ∧ f 1 = a 0) ∧
  (∀ p, p < n → (a (29 + p) = nI (G p) ∧ sg p = nI (G p) ∧ G p < 512) ∧ (a (36 + p) = nI (M p) ∧ mk p = nI (M p) ∧ M p < 10) ∧ (a (8 + p) = nI (H p) ∧ sh p = nI (H p) ∧ H p ≤ 10) ∧ (a (15 + p) = nI (D p) ∧ od p = nI (D p) ∧ D p < 10) ∧ wi p = a (22 + p)) ∧
  zWV (fun p => a (22 + p)) n ∧ zRL a f co 0 c0 ∧ zRL a f co 1 c1
def JNx (s : zS) (n : Nat) (G M H D : Nat → Nat) (c0 c1 : List Nat) : Prop := zRS (s.1 77) (s.1 3) (s.1 4) (s.1 5) (s.1 6) (s.1 7) (s.1 8) (s.1 9) n G M H D c0 c1
/-- what can be undone -/
def JUx (s : zS) (n u : Nat) : Prop := u ≤ 10 ∧ s.1 77 43 = nI u ∧ s.1 73 3 = nI u ∧ ∀ r, r < u → (∀ p, p < n → s.1 74 (21 * r + 3 * p) = s.1 77 (44 + 21 * r + p) ∧ s.1 74 (21 * r + 3 * p + 1) = s.1 77 (44 + 21 * r + 7 + p) ∧ s.1 74 (21 * r + 3 * p + 2) = s.1 77 (44 + 21 * r + 14 + p) ∧ (∃ g, g < 512 ∧ s.1 77 (44 + 21 * r + 7 + p) = nI g) ∧ (∃ m, m < 10 ∧ s.1 77 (44 + 21 * r + 14 + p) = nI m)) ∧ zWV (fun p => s.1 77 (44 + 21 * r + p)) n
/-- images of both -/
def JIx (s : zS) : Prop := (∀ i, i < 2 → s.1 2 i = s.1 78 i ∧ (s.1 2 i = 0 ∨ s.1 2 i = 1)) ∧
  (s.1 2 0 = 1 → ∃ n G M H D c0 c1, zRS (fun j => s.1 77 (1155 + j)) (s.1 12) (s.1 13) (s.1 14) (s.1 15) (s.1 16) (s.1 17) (s.1 18) n G M H D c0 c1) ∧
  (s.1 2 1 = 1 → ∃ n G M H D c0 c1, zRS (fun j => s.1 77 (2310 + j)) (s.1 21) (s.1 22) (s.1 23) (s.1 24) (s.1 25) (s.1 26) (s.1 27) n G M H D c0 c1)
theorem JNx.keep {s t : zS} {S : List Nat} {n : Nat} {G M H D : Nat → Nat} {c0 c1 : List Nat} (h : JNx s n G M H D c0 c1) (hk : zk_k S s t) (hd : (3 ∉ S ∧ 4 ∉ S ∧ 5 ∉ S ∧ 6 ∉ S) ∧ (7 ∉ S ∧ 8 ∉ S ∧ 9 ∉ S ∧ 77 ∉ S)) : JNx t n G M H D c0 c1 := by
  unfold JNx
  rw [(hk 3 hd.1.1).1, (hk 4 hd.1.2.1).1, (hk 5 hd.1.2.2.1).1, (hk 6 hd.1.2.2.2).1, (hk 7 hd.2.1).1, (hk 8 hd.2.2.1).1, (hk 9 hd.2.2.2.1).1, (hk 77 hd.2.2.2.2).1]
  exact h
theorem JUx.keep {s t : zS} {S : List Nat} {n u : Nat} (h : JUx s n u) (hk : zk_k S s t) (hd : 73 ∉ S ∧ 74 ∉ S ∧ 77 ∉ S) : JUx t n u := by
  unfold JUx
  rw [(hk 73 hd.1).1, (hk 74 hd.2.1).1, (hk 77 hd.2.2).1]
  exact h
theorem JIx.keep {s t : zS} {S : List Nat} (h : JIx s) (hk : zk_k S s t) (hd : ∀ k, k ∈ [2, 12, 13, 14, 15, 16, 17, 18, 21, 22, 23, 24, 25, 26, 27, 77, 78] → k ∉ S) : JIx t := by
  unfold JIx
  rw [(hk 2 (hd 2 (by simp))).1, (hk 12 (hd 12 (by simp))).1, (hk 13 (hd 13 (by simp))).1, (hk 14 (hd 14 (by simp))).1, (hk 15 (hd 15 (by simp))).1, (hk 16 (hd 16 (by simp))).1, (hk 17 (hd 17 (by simp))).1, (hk 18 (hd 18 (by simp))).1, (hk 21 (hd 21 (by simp))).1, (hk 22 (hd 22 (by simp))).1, (hk 23 (hd 23 (by simp))).1, (hk 24 (hd 24 (by simp))).1, (hk 25 (hd 25 (by simp))).1, (hk 26 (hd 26 (by simp))).1, (hk 27 (hd 27 (by simp))).1, (hk 77 (hd 77 (by simp))).1, (hk 78 (hd 78 (by simp))).1]
  exact h

set_option maxRecDepth 20000 in
theorem or_bit : ∀ p, p < 10 → ∀ c, c < 1024 → c < 2 ^ p → nI c ||| nI (2 ^ p) = nI (c + 2 ^ p) := by decide +kernel
theorem or_zero (x : Int32) : x ||| 0 = x := Int32.or_zero
def zink (n : Nat) (G : Nat → Nat) (m : Nat) : Nat := zfd (fun p c => c + (if m.testBit p then zpc 9 (G p) else 0)) n 0 0
def zodd (n : Nat) (D : Nat → Nat) (m : Nat) : Nat := zfd (fun p c => c + (if m.testBit p then D p else 0)) n 0 0
def zeng (n : Nat) (w : Nat → Int32) : Nat := zfd (fun p c => if w p = -1 then c else c + 2 ^ p) n 0 0
theorem r77_1 (s : zS) : zr_i s 77 (1 : Int32) = some (s.1 77 1) := rd_77 s 1 rfl (by decide)
theorem r77_0 (s : zS) : zr_i s 77 (0 : Int32) = some (s.1 77 0) := rd_77 s 0 rfl (by decide)
section SOC
variable {s : zS} {n : Nat} {G M H D : Nat → Nat} {c0 c1 : List Nat}
theorem ink7 (hR : JNx s n G M H D c0 c1) {m : Nat} (hm : m < 1024) : f_X5_inkOf_3 (nI m) s = some (nI (zink n G m), s) := by
  have K := loop_fold (fun q i c => f_X5_inkOf_3_4 q (nI m) (nI c) (nI i) s) n (fun p c => c + (if m.testBit p then zpc 9 (G p) else 0)) (fun c => some (nI c, s)) (fun _ _ => True)
    (fun q i c hi _ => by
      have hn := hR.1.1
      refine ⟨?_, trivial⟩
      show f_X5_inkOf_3_4 (q + 1) (nI m) (nI c) (nI i) s = _
      rw [f_X5_inkOf_3_4, hR.1.2.2.1, if_neg (nI_ge hi (by omega)), ush_tb (by omega) hm]
      by_cases ht : m.testBit i = true
      · rw [if_pos ht, if_neg (fun z => z rfl), rd_4 s i rfl (by omega), Option.bind_some, (hR.2.1 i hi).1.2.1, bc_ok s (hR.2.1 i hi).1.2.2, zbd_some, zb_eq, nI_add, f_X5_inkOf_3_33, zb_eq, nI_1]
        simp only [ht, if_true]
      · rw [if_neg ht, if_pos (by decide), f_X5_inkOf_3_33, zb_eq, nI_1]
        simp only [ht]
        rfl)
    (fun q c _ => by
      show f_X5_inkOf_3_4 (q + 1) (nI m) (nI c) (nI n) s = _
      rw [f_X5_inkOf_3_4, hR.1.2.2.1, if_pos (nI_le (Nat.le_refl n) (by have := hR.1.1; omega))])
    n 0 zFU 0 (by omega) (by have := hR.1.1; show n < 5000; omega) trivial
  exact K.1
theorem ink8 (hR : JNx s n G M H D c0 c1) {m : Nat} (hm : m < 1024) : f_X8_inkOf (nI m) s = some (nI (zink n G m), s) := by
  have K := loop_fold (fun q i c => f_X8_inkOf_4 q (nI m) (nI c) (nI i) s) n (fun p c => c + (if m.testBit p then zpc 9 (G p) else 0)) (fun c => some (nI c, s)) (fun _ _ => True)
    (fun q i c hi _ => by
      have hn := hR.1.1
      refine ⟨?_, trivial⟩
      show f_X8_inkOf_4 (q + 1) (nI m) (nI c) (nI i) s = _
      rw [f_X8_inkOf_4, r77_1 s, Option.bind_some, hR.1.2.1, if_neg (nI_ge hi (by omega)), in_ok s (by omega) hm, zbd_some]
      by_cases ht : m.testBit i = true
      · rw [if_pos ht, if_neg (by decide), nI_add, rd_77 s (29 + i) rfl (by omega), Option.bind_some, (hR.2.1 i hi).1.1, bits_512 (hR.2.1 i hi).1.2.2, zbd_some, f_X8_inkOf_40, zb_eq, zb_eq, nI_add, nI_1]
        simp only [ht, if_true]
      · rw [if_neg ht, if_pos rfl, f_X8_inkOf_40, zb_eq, zb_eq, nI_1, show nI c + (0 : Int32) = nI (c + 0) from nI_add c 0]
        simp only [ht]
        rfl)
    (fun q c _ => by
      show f_X8_inkOf_4 (q + 1) (nI m) (nI c) (nI n) s = _
      rw [f_X8_inkOf_4, r77_1 s, Option.bind_some, hR.1.2.1, if_pos (nI_le (Nat.le_refl n) (by have := hR.1.1; omega))])
    n 0 zFU 0 (by omega) (by have := hR.1.1; show n < 5000; omega) trivial
  exact K.1
theorem odd8 (hR : JNx s n G M H D c0 c1) {m : Nat} (hm : m < 1024) : f_X8_oddsOf (nI m) s = some (nI (zodd n D m), s) := by
  have K := loop_fold (fun q i c => f_X8_oddsOf_4 q (nI m) (nI c) (nI i) s) n (fun p c => c + (if m.testBit p then D p else 0)) (fun c => some (nI c, s)) (fun _ _ => True)
    (fun q i c hi _ => by
      have hn := hR.1.1
      refine ⟨?_, trivial⟩
      show f_X8_oddsOf_4 (q + 1) (nI m) (nI c) (nI i) s = _
      rw [f_X8_oddsOf_4, r77_1 s, Option.bind_some, hR.1.2.1, if_neg (nI_ge hi (by omega)), in_ok s (by omega) hm, zbd_some]
      by_cases ht : m.testBit i = true
      · rw [if_pos ht, if_neg (by decide), nI_add, rd_77 s (15 + i) rfl (by omega), Option.bind_some, (hR.2.1 i hi).2.2.2.1.1, f_X8_oddsOf_37, zb_eq, zb_eq, nI_add, nI_1]
        simp only [ht, if_true]
      · rw [if_neg ht, if_pos rfl, f_X8_oddsOf_37, zb_eq, zb_eq, nI_1, show nI c + (0 : Int32) = nI (c + 0) from nI_add c 0]
        simp only [ht]
        rfl)
    (fun q c _ => by
      show f_X8_oddsOf_4 (q + 1) (nI m) (nI c) (nI n) s = _
      rw [f_X8_oddsOf_4, r77_1 s, Option.bind_some, hR.1.2.1, if_pos (nI_le (Nat.le_refl n) (by have := hR.1.1; omega))])
    n 0 zFU 0 (by omega) (by have := hR.1.1; show n < 5000; omega) trivial
  exact K.1
theorem odd7 (hR : JNx s n G M H D c0 c1) {m : Nat} (hm : m < 1024) : f_X5_oddsOfSet_3 (nI m) s = some (nI (zodd n D m), s) := by
  have K := loop_fold (fun q i c => f_X5_oddsOfSet_3_4 q (nI m) (nI c) (nI i) s) n (fun p c => c + (if m.testBit p then D p else 0)) (fun c => some (nI c, s)) (fun _ _ => True)
    (fun q i c hi _ => by
      have hn := hR.1.1
      refine ⟨?_, trivial⟩
      show f_X5_oddsOfSet_3_4 (q + 1) (nI m) (nI c) (nI i) s = _
      rw [f_X5_oddsOfSet_3_4, hR.1.2.2.1, if_neg (nI_ge hi (by omega)), ush_tb (by omega) hm]
      by_cases ht : m.testBit i = true
      · rw [if_pos ht, if_neg (fun z => z rfl), rd_7 s i rfl (by omega), Option.bind_some, (hR.2.1 i hi).2.2.2.1.2.1, zb_eq, nI_add, f_X5_oddsOfSet_3_30, zb_eq, nI_1]
        simp only [ht, if_true]
      · rw [if_neg ht, if_pos (by decide), f_X5_oddsOfSet_3_30, zb_eq, nI_1]
        simp only [ht]
        rfl)
    (fun q c _ => by
      show f_X5_oddsOfSet_3_4 (q + 1) (nI m) (nI c) (nI n) s = _
      rw [f_X5_oddsOfSet_3_4, hR.1.2.2.1, if_pos (nI_le (Nat.le_refl n) (by have := hR.1.1; omega))])
    n 0 zFU 0 (by omega) (by have := hR.1.1; show n < 5000; omega) trivial
  exact K.1
theorem eng7 (hR : JNx s n G M H D c0 c1) : f_X5_engagedBits_3 s = some (nI (zeng n (fun p => s.1 77 (22 + p))), s) ∧ zeng n (fun p => s.1 77 (22 + p)) < 2 ^ n := by
  have K := loop_fold (fun q i c => f_X5_engagedBits_3_4 q (nI c) (nI i) s) n (fun p c => if s.1 77 (22 + p) = -1 then c else c + 2 ^ p) (fun c => some (nI c, s)) (fun i c => c < 2 ^ i)
    (fun q i c hi hc => by
      have hn := hR.1.1
      have h7 : 2 ^ i ≤ 2 ^ 7 := Nat.pow_le_pow_right (by decide) (by omega)
      constructor
      · show f_X5_engagedBits_3_4 (q + 1) (nI c) (nI i) s = _
        rw [f_X5_engagedBits_3_4, hR.1.2.2.1, if_neg (nI_ge hi (by omega)), rd_8 s i rfl (by omega), Option.bind_some, (hR.2.1 i hi).2.2.2.2]
        rcases hR.2.2.1 i hi with hw | ⟨j, hj, -, hw, -⟩
        · simp only at hw
          rw [hw, if_pos (by decide), f_X5_engagedBits_3_27, zb_eq, nI_1]
          simp only [if_true]
        · simp only at hw
          rw [hw, if_neg (nI_pos (by omega)), zb_eq, one_shl i (by omega), or_bit i (by omega) c (by omega) hc, f_X5_engagedBits_3_27, zb_eq, nI_1, if_neg (ne_m1 (by omega))]
      · show (if s.1 77 (22 + i) = -1 then c else c + 2 ^ i) < 2 ^ (i + 1)
        rw [Nat.pow_succ]
        split <;> omega)
    (fun q c _ => by
      show f_X5_engagedBits_3_4 (q + 1) (nI c) (nI n) s = _
      rw [f_X5_engagedBits_3_4, hR.1.2.2.1, if_pos (nI_le (Nat.le_refl n) (by have := hR.1.1; omega))])
    n 0 zFU 0 (by omega) (by have := hR.1.1; show n < 5000; omega) (by decide)
  exact K
theorem eng8 (hR : JNx s n G M H D c0 c1) : f_X8_engagedSet s = some (nI (zeng n (fun p => s.1 77 (22 + p))), s) := by
  have K := loop_fold (fun q i c => f_X8_engagedSet_4 q (nI c) (nI i) s) n (fun p c => if s.1 77 (22 + p) = -1 then c else c + 2 ^ p) (fun c => some (nI c, s)) (fun i c => c < 2 ^ i)
    (fun q i c hi hc => by
      have hn := hR.1.1
      have h7 : 2 ^ i ≤ 2 ^ 7 := Nat.pow_le_pow_right (by decide) (by omega)
      constructor
      · show f_X8_engagedSet_4 (q + 1) (nI c) (nI i) s = _
        rw [f_X8_engagedSet_4, r77_1 s, Option.bind_some, hR.1.2.1, if_neg (nI_ge hi (by omega)), nI_add, rd_77 s (22 + i) rfl (by omega), Option.bind_some]
        by_cases hw : s.1 77 (22 + i) = -1
        · rw [if_neg (fun z => z hw), f_X8_engagedSet_35, zb_eq, zb_eq, or_zero, nI_1, if_pos hw]
        · rw [if_pos hw, one_shl i (by omega), f_X8_engagedSet_35, zb_eq, zb_eq, or_bit i (by omega) c (by omega) hc, nI_1, if_neg hw]
      · show (if s.1 77 (22 + i) = -1 then c else c + 2 ^ i) < 2 ^ (i + 1)
        rw [Nat.pow_succ]
        split <;> omega)
    (fun q c _ => by
      show f_X8_engagedSet_4 (q + 1) (nI c) (nI n) s = _
      rw [f_X8_engagedSet_4, r77_1 s, Option.bind_some, hR.1.2.1, if_pos (nI_le (Nat.le_refl n) (by have := hR.1.1; omega))])
    n 0 zFU 0 (by omega) (by have := hR.1.1; show n < 5000; omega) (by decide)
  exact K.1
theorem all7 (hR : JNx s n G M H D c0 c1) : f_X5_everybody_3 s = some (nI (2 ^ n - 1), s) := by
  have hn := hR.1.1
  rw [f_X5_everybody_3, hR.1.2.2.1, one_shl n (by omega)]
  exact congrArg (fun x => some (x, s)) (pk_sub (b := 1) (Nat.one_le_two_pow))
theorem all8 (hR : JNx s n G M H D c0 c1) : f_X8_everybody s = some (nI (2 ^ n - 1), s) := by
  have hn := hR.1.1
  rw [f_X8_everybody, r77_1 s, Option.bind_some, hR.1.2.1, one_shl n (by omega)]
  exact congrArg (fun x => some (x, s)) (pk_sub (b := 1) (Nat.one_le_two_pow))
/-- who is a person -/
theorem has_in (hR : JNx s n G M H D c0 c1) {p : Nat} (hp : p < n) : f_X5_has_3 (nI p) s = some (1, s) := by
  have hn := hR.1.1
  unfold f_X5_has_3 f_X5_has_3_23
  rw [if_neg (nI_pos (by omega)), hR.1.2.2.1, if_neg (nI_ge hp (by omega)), if_neg (nI_ge (by omega) (by omega))]
  rfl
theorem has_neg {x : Int32} (h : x < 0) : f_X5_has_3 x s = some (0, s) := by
  unfold f_X5_has_3 f_X5_has_3_22 f_X5_has_3_23
  rw [if_pos h]
  rfl
theorem has_big (hR : JNx s n G M H D c0 c1) {x : Int32} (h0 : ¬ x < 0) (h : nI n ≤ x) : f_X5_has_3 x s = some (0, s) := by
  unfold f_X5_has_3 f_X5_has_3_22 f_X5_has_3_23
  rw [if_neg h0, hR.1.2.2.1, if_pos h]
  rfl
theorem per_in (hR : JNx s n G M H D c0 c1) {p : Nat} (hp : p < n) : f_X8_isPerson (nI p).toInt64 s = some (1, s) := by
  have hn := hR.1.1
  unfold f_X8_isPerson
  rw [r77_1 s, Option.bind_some, hR.1.2.1, wi_sub _ _ (by omega), if_pos (by rw [nI_toInt (by omega)]; omega), zbd_some]
  rfl
theorem per_neg (hR : JNx s n G M H D c0 c1) {x : Int32} (h : x < 0) : f_X8_isPerson x.toInt64 s = some (0, s) := by
  have hn := hR.1.1
  unfold f_X8_isPerson
  have h2 : x.toInt < 0 := Int32.lt_iff_toInt_lt.mp h
  rw [r77_1 s, Option.bind_some, hR.1.2.1, wi_sub _ _ (by omega), if_neg (by omega), zbd_some]
  rfl
theorem per_big (hR : JNx s n G M H D c0 c1) {x : Int32} (h : nI n ≤ x) : f_X8_isPerson x.toInt64 s = some (0, s) := by
  have hn := hR.1.1
  unfold f_X8_isPerson
  have h2 := Int32.le_iff_toInt_le.mp h
  rw [nI_toInt (by omega)] at h2
  rw [r77_1 s, Option.bind_some, hR.1.2.1, wi_sub _ _ (by omega), if_neg (by omega), zbd_some]
  rfl
end SOC
