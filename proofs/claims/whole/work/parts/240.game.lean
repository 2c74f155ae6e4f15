/-- by turns: how many are added yet -/
def zo7 : Option Nat → Int32
  | none => 1000000
  | some y => nI y
def zo8 : Option Nat → Int32
  | none => 268435456
  | some y => nI (y + 1)
def zom (x : Nat) : Option Nat → Option Nat
  | none => some x
  | some y => some (min y x)
def zgs (fit : Nat → Bool) (T : Nat → Nat) (m p : Nat) (st : Option Nat × Nat) : Option Nat × Nat :=
  if !(m.testBit p) && fit (m ||| 2 ^ p) then
    (if T (m ||| 2 ^ p) % 2 = 0 then (zom (T (m ||| 2 ^ p)) st.1) else st.1, max st.2 (T (m ||| 2 ^ p) + 1))
  else st
def zgr : Option Nat × Nat → Nat
  | (some y, _) => y + 1
  | (none, b) => b
def zgv (n : Nat) (fit : Nat → Bool) (T : Nat → Nat) (m : Nat) : Nat := zgr (zfd (zgs fit T m) n 0 (none, 0))
def zgi (X : Nat) (st : Option Nat × Nat) : Prop := (∀ y, st.1 = some y → y % 2 = 0 ∧ y ≤ X) ∧ st.2 ≤ X + 1 ∧ (st.1 = none → st.2 % 2 = 0)
theorem zgs_i {fit : Nat → Bool} {T : Nat → Nat} {m X : Nat} (hT : ∀ j, T j ≤ X) (p : Nat) {st : Option Nat × Nat} (h : zgi X st) : zgi X (zgs fit T m p st) := by
  unfold zgs
  split
  · have hx := hT (m ||| 2 ^ p)
    by_cases he : T (m ||| 2 ^ p) % 2 = 0
    · rw [if_pos he]
      refine ⟨fun y hy => ?_, by show max st.2 (T (m ||| 2 ^ p) + 1) ≤ X + 1; have := h.2.1; omega, fun z => ?_⟩
      · cases hs : st.1 with
        | none => rw [hs] at hy; simp only [zom, Option.some.injEq] at hy; omega
        | some w =>
          rw [hs] at hy
          simp only [zom, Option.some.injEq] at hy
          have := h.1 w hs
          omega
      · cases hs : st.1 with
        | none => simp [zom, hs] at z
        | some w => simp [zom, hs] at z
    · rw [if_neg he]
      refine ⟨h.1, by show max st.2 (T (m ||| 2 ^ p) + 1) ≤ X + 1; have := h.2.1; omega, fun z => ?_⟩
      have := h.2.2 z
      show max st.2 (T (m ||| 2 ^ p) + 1) % 2 = 0
      omega
  · exact h
theorem zgr_le {X : Nat} {st : Option Nat × Nat} (h : zgi X st) : zgr st ≤ X + 1 := by
  obtain ⟨o, b⟩ := st
  cases o with
  | none => exact h.2.1
  | some y => have := (h.1 y rfl).2; show y + 1 ≤ X + 1; omega
theorem zgs_congr {fit : Nat → Bool} {T U : Nat → Nat} {m p : Nat} (h : m.testBit p = false → T (m ||| 2 ^ p) = U (m ||| 2 ^ p)) (st : Option Nat × Nat) : zgs fit T m p st = zgs fit U m p st := by
  unfold zgs
  cases hb : m.testBit p with
  | true => simp
  | false => rw [h hb]
theorem or_new {m p : Nat} (h : m.testBit p = false) : m < m ||| 2 ^ p := by
  have h1 : m ≤ m ||| 2 ^ p := Nat.left_le_or
  have h2 : m ≠ m ||| 2 ^ p := fun e => by
    have : (m ||| 2 ^ p).testBit p = true := by rw [Nat.testBit_or, Nat.testBit_two_pow_self]; simp
    rw [← e, h] at this
    cases this
  omega
theorem or_old {m p : Nat} (h : m.testBit p = true) : m ||| 2 ^ p = m := Nat.eq_of_testBit_eq (fun i => by
  rw [Nat.testBit_or, Nat.testBit_two_pow]
  by_cases e : p = i
  · subst e; rw [h]; rfl
  · simp [e])
theorem or_lt {m p n : Nat} (hm : m < 2 ^ n) (hp : p < n) : m ||| 2 ^ p < 2 ^ n := Nat.or_lt_two_pow hm (Nat.pow_lt_pow_right (by decide) hp)
theorem m1 (x : Int32) : x + (-1) = x - 1 := (Int32.sub_eq_add_neg x 1).symm
section GAME
variable {n : Nat} {G M H D A B : Nat → Nat} {c0 c1 : List Nat} {s : zS}
theorem turn7 {t : zS} (hJ : JR t n G M c0 c1 A B) {m : Nat} {T : Nat → Nat} (hm : m < 2 ^ n) (hTb : ∀ j, T j ≤ 1000) (h52 : ∀ p, p < n → m.testBit p = false → t.1 52 (m ||| 2 ^ p) = nI (T (m ||| 2 ^ p))) : ∃ t', f_X4_turnsBehind (nI m) t = some (nI (zgv n (zfs n G c0) T m), t') ∧ JR t' n G M c0 c1 A B ∧ zk_k RC t t' := by
  have hn := hJ.1.1.1
  have h128 := pow_128 hn
  have K : ∀ (k p f : Nat) (st : Option Nat × Nat) (u : zS), p + k = n → k < f → zgi 1000 st → (JR u n G M c0 c1 A B ∧ zk_k RC t u) → ∃ t', f_X4_turnsBehind_8 f (nI m) (zo7 st.1) (nI st.2 - 1) (nI p) u = some (nI (zgr (zfd (zgs (zfs n G c0) T m) k p st)), t') ∧ JR t' n G M c0 c1 A B ∧ zk_k RC t t' := by
    intro k
    induction k with
    | zero =>
      intro p f st u hp hf hst hu
      obtain ⟨f, rfl⟩ : ∃ r, f = r + 1 := ⟨f - 1, by omega⟩
      obtain ⟨o, b⟩ := st
      refine ⟨u, ?_, hu⟩
      rw [f_X4_turnsBehind_8, hu.1.1.1.2.1, if_pos (nI_le (by omega) (by omega))]
      cases o with
      | none =>
        rw [if_pos (show (1000000 : Int32) ≤ zo7 ((none : Option Nat), b).1 from by show (1000000 : Int32) ≤ 1000000; decide), f_X4_turnsBehind_97]
        show some ((1 : Int32) + (nI b - 1), u) = some (nI b, u)
        rw [show (1 : Int32) + (nI b - 1) = nI b by rw [Int32.add_comm]; exact Int32.sub_add_cancel _ _]
      | some y =>
        have hy := (hst.1 y rfl).2
        rw [if_neg (show ¬ (1000000 : Int32) ≤ zo7 (some y, b).1 from nc_le 1000000 rfl (by omega) (by decide)), f_X4_turnsBehind_97]
        show some ((1 : Int32) + nI y, u) = some (nI (y + 1), u)
        rw [Int32.add_comm, nI_1]
    | succ k ih =>
      intro p f st u hp hf hst hu
      obtain ⟨f, rfl⟩ : ∃ r, f = r + 1 := ⟨f - 1, by omega⟩
      rw [f_X4_turnsBehind_8, hu.1.1.1.2.1, if_neg (nI_ge (by omega) (by omega)), one_shl p (by omega), nI_or, zb_eq, zfd]
      have hol := or_lt hm (show p < n by omega)
      have nx : ∀ (st2 : Option Nat × Nat) (u2 : zS), zgs (zfs n G c0) T m p st = st2 → (JR u2 n G M c0 c1 A B ∧ zk_k RC t u2) → ∃ t', f_X4_turnsBehind_79 (f_X4_turnsBehind_8 f) (nI m) (zo7 st2.1) (nI st2.2 - 1) (nI p) u2 = some (nI (zgr (zfd (zgs (zfs n G c0) T m) k (p + 1) (zgs (zfs n G c0) T m p st))), t') ∧ JR t' n G M c0 c1 A B ∧ zk_k RC t t' := by
        intro st2 u2 e h2
        rw [f_X4_turnsBehind_79, zb_eq, nI_1, e]
        exact ih (p + 1) f st2 u2 (by omega) (by omega) (e ▸ zgs_i hTb p hst) h2
      cases hb : m.testBit p with
      | true =>
        rw [if_pos (by rw [or_old hb])]
        exact nx st u (by unfold zgs; simp [hb]) hu
      | false =>
        have hlt := or_new hb
        obtain ⟨u2, a1, a2, a3⟩ := fitting7 hu.1 (m := m ||| 2 ^ p) (by omega) hol
        rw [if_neg (ne_of_nI (by omega) (by omega) (by omega)), a1, zbd_some]
        by_cases hf2 : zfs n G c0 (m ||| 2 ^ p) = true
        · have hT := hTb (m ||| 2 ^ p)
          have e52 : zr_i u2 52 (nI (m ||| 2 ^ p)) = some (nI (T (m ||| 2 ^ p))) := by
            rw [rd_52 u2 (m ||| 2 ^ p) rfl (by omega), (a3 52 (by decide)).1, (hu.2 52 (by decide)).1, h52 p (by omega) hb]
          have emax : ∀ b : Nat, b ≤ 1001 → f_J9_max_7cf53 (nI b - 1) (nI (T (m ||| 2 ^ p))) u2 = some (nI (max b (T (m ||| 2 ^ p) + 1)) - 1, u2) := fun b hbb => by
            unfold f_J9_max_7cf53 f_J9_max_7cf53_10
            by_cases hb0 : b = 0
            · subst hb0
              rw [show nI 0 - (1 : Int32) = -1 from rfl, if_pos (by
                rw [Int32.lt_iff_toInt_lt, nI_toInt (by omega)]
                have : (-1 : Int32).toInt = -1 := rfl
                omega), show max 0 (T (m ||| 2 ^ p) + 1) = T (m ||| 2 ^ p) + 1 by omega, nI_pred]
            · obtain ⟨c, rfl⟩ : ∃ c, b = c + 1 := ⟨b - 1, by omega⟩
              rw [nI_pred]
              by_cases hlt2 : c < T (m ||| 2 ^ p)
              · rw [if_pos (nI_lt hlt2 (by omega)), show max (c + 1) (T (m ||| 2 ^ p) + 1) = T (m ||| 2 ^ p) + 1 by omega, nI_pred]
              · rw [if_neg (nI_nlt (by omega) (by omega)), show max (c + 1) (T (m ||| 2 ^ p) + 1) = c + 1 by omega, nI_pred]
          rw [if_pos hf2, if_neg (by decide), e52, Option.bind_some, pk_andN (by omega) 1 (by decide), show (2 : Nat) ^ 1 = 2 from rfl]
          by_cases he : T (m ||| 2 ^ p) % 2 = 0
          · rw [he, if_neg (fun z => z rfl), Option.bind_some]
            have emin : f_J9_min_7cf53 (zo7 st.1) (nI (T (m ||| 2 ^ p))) u2 = some (zo7 (zom (T (m ||| 2 ^ p)) st.1), u2) := by
              cases hs : st.1 with
              | none =>
                show f_J9_min_7cf53 (nI 1000000) (nI (T (m ||| 2 ^ p))) u2 = _
                rw [min7 (by decide) (by omega), show min 1000000 (T (m ||| 2 ^ p)) = T (m ||| 2 ^ p) by omega]
                rfl
              | some y =>
                have hy := (hst.1 y hs).2
                show f_J9_min_7cf53 (nI y) (nI (T (m ||| 2 ^ p))) u2 = _
                rw [min7 (by omega) (by omega)]
                rfl
            rw [emin, zbd_some, f_X4_turnsBehind_67, e52, Option.bind_some, emax st.2 (by have := hst.2.1; omega), zbd_some]
            exact nx (zom (T (m ||| 2 ^ p)) st.1, max st.2 (T (m ||| 2 ^ p) + 1)) u2 (by unfold zgs; simp only [hb, hf2, he, Bool.not_false, Bool.and_self, if_true]) ⟨a2, hu.2.tr a3⟩
          · have he1 : T (m ||| 2 ^ p) % 2 = 1 := by omega
            rw [he1, if_pos (by decide), f_X4_turnsBehind_67, e52, Option.bind_some, emax st.2 (by have := hst.2.1; omega), zbd_some]
            exact nx (st.1, max st.2 (T (m ||| 2 ^ p) + 1)) u2 (by unfold zgs; simp only [hb, hf2, he, Bool.not_false, Bool.and_self, if_true, if_false]) ⟨a2, hu.2.tr a3⟩
        · rw [if_neg hf2, if_pos rfl]
          exact nx st u2 (by unfold zgs; simp [hf2]) ⟨a2, hu.2.tr a3⟩
  exact K n 0 zFU (none, 0) t (by omega) (by show n < 5000; omega) ⟨fun y hy => (by cases hy), by decide, fun _ => rfl⟩ ⟨hJ, zk_k.rf⟩
/-- a table of turns -/
def TRN (n : Nat) (fit : Nat → Bool) (P : Nat → Prop) (T : Nat → Nat) : Prop := (∀ j, T j ≤ 200) ∧ ∀ m, P m → m < 2 ^ n → T m = zgv n fit T m
theorem zgv_congr {fit : Nat → Bool} {T U : Nat → Nat} {m : Nat} (h : ∀ p, p < n → m.testBit p = false → T (m ||| 2 ^ p) = U (m ||| 2 ^ p)) : zgv n fit T m = zgv n fit U m := by
  unfold zgv
  rw [zfd_congr n 0 (none, 0) (fun p st _ hp => zgs_congr (h p (by omega)) st)]
theorem zgv_le {fit : Nat → Bool} {T : Nat → Nat} {m X : Nat} (hT : ∀ j, m < j → T j ≤ X) : zgv n fit T m ≤ X + 1 := by
  have e : zgv n fit T m = zgv n fit (fun j => if m < j then T j else 0) m := zgv_congr (fun p hp hb => by
    have := or_new hb
    simp [this])
  rw [e]
  unfold zgv
  exact zgr_le (zfd_P (zgi X) n 0 (none, 0) (fun p st h => zgs_i (fun j => by
    show (if m < j then T j else 0) ≤ X
    split
    · exact hT j (by assumption)
    · exact Nat.zero_le _) p h) ⟨fun y hy => (by cases hy), Nat.zero_le _, fun _ => rfl⟩)
theorem TRN.uni {fit : Nat → Bool} {P : Nat → Prop} {T U : Nat → Nat} (h1 : TRN n fit P T) (h2 : TRN n fit P U) (hP : ∀ m p, P m → P (m ||| 2 ^ p)) : ∀ k m, m + k = 2 ^ n → P m → m < 2 ^ n → T m = U m := by
  intro k
  induction k using Nat.strongRecOn with
  | ind k ih =>
    intro m hk hPm hm
    rw [h1.2 m hPm hm, h2.2 m hPm hm]
    exact zgv_congr (fun p hp hb => by
      have h3 := or_new hb
      have h4 := or_lt hm hp
      exact ih (2 ^ n - (m ||| 2 ^ p)) (by omega) (m ||| 2 ^ p) (by omega) (hP m p hPm) h4)
theorem zfsb : zfs n G c0 = fun m => zfs n G c0 m := rfl
theorem and_sub {S m p : Nat} (h : m &&& S = S) : (m ||| 2 ^ p) &&& S = S := Nat.eq_of_testBit_eq (fun i => by
  have := congrArg (fun x => x.testBit i) h
  simp only [Nat.testBit_and] at this
  rw [Nat.testBit_and, Nat.testBit_or]
  cases h1 : m.testBit i <;> cases h2 : S.testBit i <;> simp_all)
theorem turns7 (hJ : JR s n G M c0 c1 A B) {S : Nat} (hS : S < 2 ^ n) : ∃ s' T, f_X4_learnTurns (nI S) s = some ((), s') ∧ TRN n (zfs n G c0) (fun m => m &&& S = S) T ∧ (∀ m, m &&& S = S → m < 2 ^ n → s'.1 52 m = nI (T m)) ∧ JR s' n G M c0 c1 A B ∧ zk_k (52 :: RC) s s' := by
  have hn := hJ.1.1.1
  have h128 := pow_128 hn
  have K : ∀ (k f : Nat) (T : Nat → Nat) (t : zS), k ≤ 2 ^ n → k < f → (JR t n G M c0 c1 A B ∧ zk_k (52 :: RC) s t) → (∀ j, T j ≤ 200) → (∀ j, T j + j ≤ 2 ^ n ∨ T j = 0) → (∀ m, m &&& S = S → k ≤ m → m < 2 ^ n → t.1 52 m = nI (T m) ∧ T m = zgv n (zfs n G c0) T m) →
      ∃ s' T, f_X4_learnTurns_8 f (nI S) (nI k - 1) t = some ((), s') ∧ TRN n (zfs n G c0) (fun m => m &&& S = S) T ∧ (∀ m, m &&& S = S → m < 2 ^ n → s'.1 52 m = nI (T m)) ∧ JR s' n G M c0 c1 A B ∧ zk_k (52 :: RC) s s' := by
    intro k
    induction k with
    | zero =>
      intro f T t hk hf ht hTb hTs hT
      obtain ⟨f, rfl⟩ : ∃ r, f = r + 1 := ⟨f - 1, by omega⟩
      refine ⟨t, T, ?_, ⟨hTb, fun m h1 h2 => (hT m h1 (Nat.zero_le _) h2).2⟩, fun m h1 h2 => (hT m h1 (Nat.zero_le _) h2).1, ht⟩
      rw [f_X4_learnTurns_8, show nI 0 - (1 : Int32) = -1 from rfl]
      split
      · rfl
      · rw [if_pos (by decide)]; rfl
    | succ k ih =>
      intro f T t hk hf ht hTb hTs hT
      obtain ⟨f, rfl⟩ : ∃ r, f = r + 1 := ⟨f - 1, by omega⟩
      rw [nI_pred, f_X4_learnTurns_8]
      by_cases hlt : k < S
      · rw [if_pos (nI_lt hlt (by omega))]
        have hge : ∀ m, m &&& S = S → S ≤ m := fun m h => h ▸ Nat.and_le_left
        refine ⟨t, T, rfl, ⟨hTb, fun m h1 h2 => (hT m h1 (by have := hge m h1; omega) h2).2⟩, fun m h1 h2 => (hT m h1 (by have := hge m h1; omega) h2).1, ht⟩
      rw [if_neg (nI_nlt (by omega) (by omega)), if_neg (nI_pos (by omega)), nI_and]
      by_cases hsub : k &&& S = S
      · have hTk : ∀ p, p < n → k.testBit p = false → (k ||| 2 ^ p) < 2 ^ n ∧ k + 1 ≤ (k ||| 2 ^ p) ∧ (k ||| 2 ^ p) &&& S = S := fun p hp hb => ⟨or_lt (by omega) hp, or_new hb, and_sub hsub⟩
        obtain ⟨t2, a1, a2, a3⟩ := turn7 (T := T) ht.1 (m := k) (by omega) (fun j => by have := hTb j; omega) (fun p hp hb => by
          obtain ⟨q1, q2, q3⟩ := hTk p hp hb
          exact (hT _ q3 q2 q1).1)
        have hv : zgv n (zfs n G c0) T k + k ≤ 2 ^ n := by
          have := zgv_le (n := n) (fit := zfs n G c0) (T := T) (m := k) (X := 2 ^ n - (k + 1)) (fun j hj => by
            rcases hTs j with h | h
            · omega
            · omega)
          omega
        rw [if_neg (fun z => z (by rw [hsub])), a1, zbd_some, wr_52 t2 k rfl (by omega), Option.bind_some, f_X4_learnTurns_35, zb_eq, m1 (nI k)]
        have ecg : ∀ m, k ≤ m → zgv n (zfs n G c0) (fun j => if j = k then zgv n (zfs n G c0) T k else T j) m = zgv n (zfs n G c0) T m := fun m hkm => zgv_congr (fun p hp hb => by
          have := or_new hb
          show (if (m ||| 2 ^ p) = k then _ else T (m ||| 2 ^ p)) = _
          rw [if_neg (by omega)])
        refine ih f (fun j => if j = k then zgv n (zfs n G c0) T k else T j) _ (by omega) (by omega) ⟨a2.keep (zk_k.rf.i (S := [52]) (by simp)) (by decide), (ht.2.tr (a3.mono (by decide))).i (by simp)⟩ (fun j => ?_) (fun j => ?_) (fun m h1 h2 h3 => ?_)
        · show (if j = k then zgv n (zfs n G c0) T k else T j) ≤ 200
          split
          · omega
          · exact hTb j
        · show (if j = k then zgv n (zfs n G c0) T k else T j) + j ≤ 2 ^ n ∨ (if j = k then zgv n (zfs n G c0) T k else T j) = 0
          by_cases e : j = k
          · rw [if_pos e]; left; rw [e]; exact hv
          · rw [if_neg e]; exact hTs j
        · rw [ecg m h2]
          by_cases e : m = k
          · subst e; rw [zs_i_v]; simp
          · rw [zs_i_o _ _ _ _ _ e, (a3 52 (by decide)).1]
            simp only [e, if_false]
            exact hT m h1 (by omega) h3
      · rw [if_pos (fun z => hsub ((nI_eq (Nat.lt_of_le_of_lt Nat.and_le_left (by omega)) (by omega)).mp z)), f_X4_learnTurns_35, zb_eq, m1 (nI k)]
        refine ih f T t (by omega) (by omega) ht hTb hTs (fun m h1 h2 h3 => hT m h1 ?_ h3)
        by_cases e : m = k
        · subst e; exact absurd h1 hsub
        · omega
  rw [f_X4_learnTurns, allK hJ.1.1, zbd_some, ← i1 n]
  exact K (2 ^ n) zFU (fun _ => 0) s (Nat.le_refl _) (by show 2 ^ n < 5000; omega) ⟨hJ, zk_k.rf⟩ (fun _ => Nat.zero_le _) (fun _ => Or.inr rfl) (fun m h1 h2 h3 => by omega)
/-- the reference's way to say it -/
def zge (x : Nat) : Int32 := if x % 2 = 1 then nI x else -(nI x) - 1
theorem zge_e {x : Nat} (h : x % 2 = 0) : zge x = -(nI x) - 1 := by unfold zge; rw [if_neg (by omega)]
theorem zge_o {x : Nat} (h : x % 2 = 1) : zge x = nI x := by unfold zge; rw [if_pos h]
set_option maxRecDepth 20000 in
theorem zge_f : ∀ x, x < 400 → -(-(nI x) - 1) = nI (x + 1) ∧ -(nI x) - 1 < 0 ∧ -(-(nI x) - 1) - 1 = nI x := by decide +kernel
theorem game8_one (kb : Int32 → zS → Option (Unit × zS)) {t : zS} {m : Nat} {T : Nat → Nat} (hZ : ZM t n G M c0 c1) (hF : ZFT t n G c0) (hm : m < 2 ^ n) (hTb : ∀ j, T j ≤ 200) (h95 : ∀ p, p < n → m.testBit p = false → t.1 95 (m ||| 2 ^ p) = zge (T (m ||| 2 ^ p))) : f_X8_laysGame_27 kb zFU (nI m) 268435456 0 0 t = kb (nI m + (-1)) (zs_i t 95 m (zge (zgv n (zfs n G c0) T m))) := by
  have hn := hZ.1
  have h128 := pow_128 hn
  have e3 : zr_i t 77 (1 : Int32) = some (nI n) := by rw [r77_1, hZ.2.1]
  have K : ∀ (k p f l : Nat) (st : Option Nat × Nat), p + k = n → k < f → zgi 200 st → (l ≤ 201 ∧ (st.1 = none → l = st.2)) → f_X8_laysGame_27 kb f (nI m) (zo8 st.1) (nI l) (nI p) t = kb (nI m + (-1)) (zs_i t 95 m (zge (zgr (zfd (zgs (zfs n G c0) T m) k p st)))) := by
    intro k
    induction k with
    | zero =>
      intro p f l st hp hf hst hl
      obtain ⟨f, rfl⟩ : ∃ r, f = r + 1 := ⟨f - 1, by omega⟩
      obtain ⟨o, b⟩ := st
      rw [f_X8_laysGame_27, e3, Option.bind_some, if_pos (nI_le (by omega) (by omega))]
      cases o with
      | none =>
        have e : l = b := hl.2 rfl
        subst e
        rw [if_pos (show (268435456 : Int32) ≤ zo8 ((none : Option Nat), l).1 from by show (268435456 : Int32) ≤ 268435456; decide), f_X8_laysGame_159, wr_95 t m rfl (by omega), Option.bind_some, zb_eq]
        show kb (nI m + -1) (zs_i t 95 m (-(nI l) - 1)) = kb (nI m + -1) (zs_i t 95 m (zge l))
        rw [zge_e (hst.2.2 rfl)]
      | some y =>
        have hy := hst.1 y rfl
        rw [if_neg (show ¬ (268435456 : Int32) ≤ zo8 (some y, b).1 from nc_le 268435456 rfl (by omega) (by decide)), f_X8_laysGame_159, wr_95 t m rfl (by omega), Option.bind_some, zb_eq]
        show kb (nI m + -1) (zs_i t 95 m (nI (y + 1))) = kb (nI m + -1) (zs_i t 95 m (zge (y + 1)))
        rw [zge_o (by omega)]
    | succ k ih =>
      intro p f l st hp hf hst hl
      obtain ⟨f, rfl⟩ : ∃ r, f = r + 1 := ⟨f - 1, by omega⟩
      rw [f_X8_laysGame_27, e3, Option.bind_some, if_neg (nI_ge (by omega) (by omega)), one_shl p (by omega), nI_or, zb_eq, in_ok t (by omega) (by omega), zbd_some, zfd]
      have hol := or_lt hm (show p < n by omega)
      have nx : ∀ (l2 : Nat) (st2 : Option Nat × Nat), zgs (zfs n G c0) T m p st = st2 → (l2 ≤ 201 ∧ (st2.1 = none → l2 = st2.2)) → f_X8_laysGame_134 kb (f_X8_laysGame_27 kb f) (nI m) (zo8 st2.1) (nI l2) (nI p) t = kb (nI m + (-1)) (zs_i t 95 m (zge (zgr (zfd (zgs (zfs n G c0) T m) k (p + 1) (zgs (zfs n G c0) T m p st))))) := by
        intro l2 st2 e h2
        rw [f_X8_laysGame_134, zb_eq, nI_1, e]
        exact ih (p + 1) f l2 st2 (by omega) (by omega) (e ▸ zgs_i hTb p hst) h2
      cases hb : m.testBit p with
      | true =>
        rw [if_pos rfl, if_pos (by decide)]
        exact nx l st (by unfold zgs; simp [hb]) hl
      | false =>
        have hlt := or_new hb
        have hT := hTb (m ||| 2 ^ p)
        have e95 : zr_i t 95 (nI (m ||| 2 ^ p)) = some (zge (T (m ||| 2 ^ p))) := by rw [rd_95 t (m ||| 2 ^ p) rfl (by omega), h95 p (by omega) hb]
        obtain ⟨f1, f2, -⟩ := zge_f (T (m ||| 2 ^ p)) (by omega)
        rw [if_neg (by decide), rd_94 t (m ||| 2 ^ p) rfl (by omega), Option.bind_some, hF _ (by omega) hol]
        by_cases hf2 : zfs n G c0 (m ||| 2 ^ p) = true
        · rw [if_pos hf2, if_pos (by decide), e95, Option.bind_some]
          by_cases he : T (m ||| 2 ^ p) % 2 = 0
          · rw [zge_e he, if_neg (Int32.not_le.mpr f2), Option.bind_some, f1]
            have hs : zgs (zfs n G c0) T m p st = ((zom (T (m ||| 2 ^ p)) st.1), max st.2 (T (m ||| 2 ^ p) + 1)) := by
              unfold zgs; simp only [hb, hf2, he, Bool.not_false, Bool.and_self, if_true]
            cases ho : st.1 with
            | none =>
              rw [ho] at hs
              rw [show zo8 none = (268435456 : Int32) from rfl, if_neg (show ¬ (268435456 : Int32) ≤ nI (T (m ||| 2 ^ p) + 1) from nc_le 268435456 rfl (by omega) (by decide)), Option.bind_some, f1, f_X8_laysGame_103]
              exact nx l _ hs ⟨hl.1, fun z => (by cases z)⟩
            | some y =>
              have hy := (hst.1 y ho).2
              rw [ho] at hs
              rw [show zo8 (some y) = nI (y + 1) from rfl]
              by_cases hc : y ≤ T (m ||| 2 ^ p)
              · rw [if_pos (nI_le (by omega) (by omega)), f_X8_laysGame_103]
                have := nx l _ hs ⟨hl.1, fun z => (by cases z)⟩
                simp only [zom, show min y (T (m ||| 2 ^ p)) = y by omega] at this
                exact this
              · rw [if_neg (nI_ge (by omega) (by omega)), Option.bind_some, f1, f_X8_laysGame_103]
                have := nx l _ hs ⟨hl.1, fun z => (by cases z)⟩
                simp only [zom, show min y (T (m ||| 2 ^ p)) = T (m ||| 2 ^ p) by omega] at this
                exact this
          · have he1 : T (m ||| 2 ^ p) % 2 = 1 := by omega
            have hs : zgs (zfs n G c0) T m p st = (st.1, max st.2 (T (m ||| 2 ^ p) + 1)) := by
              unfold zgs; simp only [hb, hf2, he, Bool.not_false, Bool.and_self, if_true, if_false]
            rw [zge_o he1, if_pos (nI_pos' (by omega)), Option.bind_some, nI_1]
            by_cases hc : T (m ||| 2 ^ p) + 1 ≤ l
            · rw [if_pos (nI_le hc (by omega)), f_X8_laysGame_133]
              exact nx l (st.1, max st.2 (T (m ||| 2 ^ p) + 1)) hs ⟨hl.1, fun z => by have := hl.2 z; show l = max st.2 (T (m ||| 2 ^ p) + 1); omega⟩
            · rw [if_neg (nI_ge (by omega) (by omega)), Option.bind_some, nI_1, f_X8_laysGame_133]
              exact nx (T (m ||| 2 ^ p) + 1) (st.1, max st.2 (T (m ||| 2 ^ p) + 1)) hs ⟨by omega, fun z => by have := hl.2 z; show T (m ||| 2 ^ p) + 1 = max st.2 (T (m ||| 2 ^ p) + 1); omega⟩
        · rw [if_neg hf2, if_neg (fun z => z rfl)]
          exact nx l st (by unfold zgs; simp [hf2]) hl
  exact K n 0 zFU 0 (none, 0) (by omega) (by show n < 5000; omega) ⟨fun y hy => (by cases hy), by decide, fun _ => rfl⟩ ⟨by decide, fun _ => rfl⟩
theorem game8 {t : zS} (hZ : ZM t n G M c0 c1) : ∃ t' T, f_X8_laysGame t = some ((), t') ∧ TRN n (zfs n G c0) (fun _ => True) T ∧ (∀ m, m < 2 ^ n → t'.1 95 m = zge (T m)) ∧ ZFT t' n G c0 ∧ zk_m [81, 82, 83, 84, 85, 86, 94, 95] t t' := by
  have hn := hZ.1
  have h128 := pow_128 hn
  obtain ⟨s2, b1, b2, b3⟩ := fitsall8 hZ
  have K : ∀ (k f : Nat) (T : Nat → Nat) (u : zS), k ≤ 2 ^ n → k < f → zk_k [95] s2 u → (∀ j, T j ≤ 200) → (∀ j, T j + j ≤ 2 ^ n ∨ T j = 0) → (∀ m, k ≤ m → m < 2 ^ n → u.1 95 m = zge (T m) ∧ T m = zgv n (zfs n G c0) T m) →
      ∃ t' T, f_X8_laysGame_15 f (nI k - 1) u = some ((), t') ∧ TRN n (zfs n G c0) (fun _ => True) T ∧ (∀ m, m < 2 ^ n → t'.1 95 m = zge (T m)) ∧ zk_k [95] s2 t' := by
    intro k
    induction k with
    | zero =>
      intro f T u hk hf hu hTb hTs hT
      obtain ⟨f, rfl⟩ : ∃ r, f = r + 1 := ⟨f - 1, by omega⟩
      refine ⟨u, T, ?_, ⟨hTb, fun m _ h2 => (hT m (Nat.zero_le _) h2).2⟩, fun m h2 => (hT m (Nat.zero_le _) h2).1, hu⟩
      rw [f_X8_laysGame_15, show nI 0 - (1 : Int32) = -1 from rfl, if_pos (by decide)]
    | succ k ih =>
      intro f T u hk hf hu hTb hTs hT
      obtain ⟨f, rfl⟩ : ∃ r, f = r + 1 := ⟨f - 1, by omega⟩
      have hZu := (hZ.keep b3.1 (by decide)).keep hu (by decide)
      have hFu : ZFT u n G c0 := fun m h1 h2 => by rw [(hu 94 (by decide)).1]; exact b2 m h1 h2
      have hv : zgv n (zfs n G c0) T k + k ≤ 2 ^ n := by
        have := zgv_le (n := n) (fit := zfs n G c0) (T := T) (m := k) (X := 2 ^ n - (k + 1)) (fun j hj => by
          rcases hTs j with h | h
          · omega
          · omega)
        omega
      have ecg : ∀ m, k ≤ m → zgv n (zfs n G c0) (fun j => if j = k then zgv n (zfs n G c0) T k else T j) m = zgv n (zfs n G c0) T m := fun m hkm => zgv_congr (fun p hp hb => by
        have := or_new hb
        show (if (m ||| 2 ^ p) = k then _ else T (m ||| 2 ^ p)) = _
        rw [if_neg (by omega)])
      rw [nI_pred, f_X8_laysGame_15, if_neg (nI_pos (by omega)), game8_one (T := T) (f_X8_laysGame_15 f) hZu hFu (by omega) hTb (fun p hp hb => (hT _ (or_new hb) (or_lt (by omega) hp)).1), m1 (nI k)]
      refine ih f (fun j => if j = k then zgv n (zfs n G c0) T k else T j) _ (by omega) (by omega) (hu.i (by simp)) (fun j => ?_) (fun j => ?_) (fun m h2 h3 => ?_)
      · show (if j = k then zgv n (zfs n G c0) T k else T j) ≤ 200
        split
        · omega
        · exact hTb j
      · show (if j = k then zgv n (zfs n G c0) T k else T j) + j ≤ 2 ^ n ∨ (if j = k then zgv n (zfs n G c0) T k else T j) = 0
        by_cases e : j = k
        · rw [if_pos e]; left; rw [e]; exact hv
        · rw [if_neg e]; exact hTs j
      · rw [ecg m h2]
        by_cases e : m = k
        · subst e; rw [zs_i_v]; simp
        · rw [zs_i_o _ _ _ _ _ e]
          simp only [e, if_false]
          exact hT m (by omega) h3
  obtain ⟨t', T, g1, g2, g3, g4⟩ := K (2 ^ n) zFU (fun _ => 0) s2 (Nat.le_refl _) (by show 2 ^ n < 5000; omega) zk_k.rf (fun _ => Nat.zero_le _) (fun _ => Or.inr rfl) (fun m h2 h3 => by omega)
  refine ⟨t', T, ?_, g2, g3, fun m h1 h2 => by rw [(g4 94 (by decide)).1]; exact b2 m h1 h2, (b3.mono (by simp)).tr ⟨g4.mono (by simp), by rw [(g4 76 (by decide)).1], by rw [(g4 76 (by decide)).1], by rw [(g4 76 (by decide)).1], by rw [(g4 76 (by decide)).1]⟩⟩
  rw [f_X8_laysGame, b1, zbd_some, r77_1, (hZ.keep b3.1 (by decide)).2.1, Option.bind_some, one_shl n (by omega), zb_eq, g1]
end GAME
