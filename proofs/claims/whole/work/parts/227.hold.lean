/-- whether a pairing w holds among S -/
def zbad (G M : Nat → Nat) (c0 c1 : List Nat) (w : Nat → Option Nat) (p : Nat) : Bool := match w p with
  | none => false
  | some r => !(zmt G M c0 c1 p r)
def zhf (n : Nat) (G M : Nat → Nat) (c0 c1 : List Nat) (S : Nat) (w : Nat → Option Nat) (p : Nat) : Option Unit :=
  if S.testBit p then (if zbad G M c0 c1 w p then some () else zfo (fun q => if S.testBit q && zbk G M c0 c1 w p q then some () else none) (n - (p + 1)) (p + 1)) else none
def zhd (n : Nat) (G M : Nat → Nat) (c0 c1 : List Nat) (S : Nat) (w : Nat → Option Nat) : Bool := (zfo (zhf n G M c0 c1 S w) n 0).isNone
def zWS (n S : Nat) (w : Nat → Option Nat) (r : Nat → Int32) : Prop := ∀ p, p < n → S.testBit p = true → r p = oI (w p) ∧ ∀ q, w p = some q → q < n ∧ q ≠ p
section HOLD
variable {n : Nat} {G M A B : Nat → Nat} {c0 c1 : List Nat} {s : zS}
theorem hold7 {v : Nat} (hd : zk_d v = 0) (hz : zk_n v = 7) (hK : ZK s n G M c0 c1) (hM : JM s n G M c0 c1) {S : Nat} (hS : S < 1024) {w : Nat → Option Nat} (hW : zWS n S w (s.1 v)) :
    f_X0_holdsAmong v (nI S) s = some (if zhd n G M c0 c1 S w then 1 else 0, s) := by
  have hn := hK.1
  have h3 := hK.2.1
  have inner : ∀ (kb : Nat → Int32 → Int32 → zS → Option (Int32 × zS)) (p : Nat), p < n → S.testBit p = true → f_X0_holdsAmong_43 kb v (nI S) (nI p) s = ((zfo (fun q => if S.testBit q && zbk G M c0 c1 w p q then some () else none) (n - (p + 1)) (p + 1)).map (fun _ => some ((0 : Int32), s))).getD (kb v (nI S) (nI (p + 1)) s) := by
    intro kb p hp hSp
    rw [← zfo_map, f_X0_holdsAmong_43, zb_eq, nI_1]
    refine zsr (fun q j => f_X0_holdsAmong_48 kb q v (nI S) (nI p) (nI j) s) (p + 1) n _ _ (fun q i hl hi => ?_) (fun q => ?_) (n - (p + 1)) (p + 1) zFU (Nat.le_refl _) (by omega) (by show n - (p + 1) < 5000; omega)
    · show f_X0_holdsAmong_48 kb (q + 1) v (nI S) (nI p) (nI i) s = _
      rw [f_X0_holdsAmong_48, h3, if_neg (nI_ge hi (by omega)), ush_tb (by omega) hS]
      by_cases hb : S.testBit i = true
      · rw [if_pos hb, if_neg (fun z => z rfl), brk7 hd hz hn hM hp hi (by omega) (w := w) (hW p hp hSp).1 (hW i hi hb).1 (hW p hp hSp).2 (hW i hi hb).2, zbd_some]
        by_cases hk : zbk G M c0 c1 w p i = true
        · simp [hb, hk]
        · rw [if_neg hk, if_pos rfl, f_X0_holdsAmong_83, zb_eq, nI_1]
          simp [hk]
      · rw [if_neg hb, if_pos (by decide), f_X0_holdsAmong_83, zb_eq, nI_1]
        simp [hb]
    · show f_X0_holdsAmong_48 kb (q + 1) v (nI S) (nI p) (nI n) s = _
      rw [f_X0_holdsAmong_48, h3, if_pos (nI_le (Nat.le_refl _) (by omega)), f_X0_holdsAmong_89, zb_eq, nI_1]
  have outer := zsr (fun q j => f_X0_holdsAmong_2 q v (nI S) (nI j) s) 0 n (fun p => (zhf n G M c0 c1 S w p).map (fun _ => some ((0 : Int32), s))) (some ((1 : Int32), s)) (fun q i _ hi => by
    show f_X0_holdsAmong_2 (q + 1) v (nI S) (nI i) s = _
    rw [f_X0_holdsAmong_2, h3, if_neg (nI_ge hi (by omega)), ush_tb (by omega) hS, zhf]
    by_cases hb : S.testBit i = true
    · obtain ⟨e1, e2⟩ := hW i hi hb
      rw [if_pos hb, if_pos hb, if_pos (by decide), rd_i hd hz (by decide) rfl (by omega), Option.bind_some, e1]
      unfold zbad
      cases hw : w i with
      | none =>
        rw [show oI none = (-1 : Int32) from rfl, if_pos (by decide), inner _ i hi hb]
        simp
      | some r =>
        obtain ⟨e3, e4⟩ := e2 r hw
        rw [show oI (some r) = nI r from rfl, if_neg (nI_pos (by omega)), Option.bind_some, km7 hn hM hi e3, zbd_some]
        by_cases hm : zmt G M c0 c1 i r = true
        · rw [if_pos hm, if_pos (by decide), inner _ i hi hb]
          simp [hm]
        · simp [hm]
    · rw [if_neg hb, if_neg hb, if_neg (fun z => z rfl), f_X0_holdsAmong_89, zb_eq, nI_1]
      rfl) (fun q => by
    show f_X0_holdsAmong_2 (q + 1) v (nI S) (nI n) s = _
    rw [f_X0_holdsAmong_2, h3, if_pos (nI_le (Nat.le_refl _) (by omega))]) n 0 zFU (Nat.le_refl _) (by omega) (by show n < 5000; omega)
  rw [zfo_map] at outer
  have outer' : f_X0_holdsAmong v (nI S) s = ((zfo (zhf n G M c0 c1 S w) n 0).map (fun _ => some ((0 : Int32), s))).getD (some ((1 : Int32), s)) := outer
  rw [outer', zhd]
  cases zfo (zhf n G M c0 c1 S w) n 0 <;> rfl
theorem lo8 (hZ : ZM s n G M c0 c1) (hL : ZL8 s n G M c1) {p q : Nat} (hp : p < n) (hq : q < n) (hpq : p ≠ q) (w : Option Nat) (hw : ∀ r, w = some r → r < n ∧ r ≠ p) : f_X8_likesMore (nI p) (nI q) (oI w) s = some (if zlo G M c1 p q w then 1 else 0, s) := by
  cases w with
  | none => exact more8_no p q
  | some r => exact more8 hZ hL hp hq (hw r rfl).1 hpq (Ne.symm (hw r rfl).2)
theorem brk8 (hZ : ZM s n G M c0 c1) (hL : ZL8 s n G M c1) (hT : ZT8 s n G M c0 c1) {p q : Nat} (hp : p < n) (hq : q < n) (hpq : p ≠ q) {w : Nat → Option Nat} (hp1 : s.1 91 p = oI (w p)) (hq1 : s.1 91 q = oI (w q)) (hwp : ∀ r, w p = some r → r < n ∧ r ≠ p) (hwq : ∀ r, w q = some r → r < n ∧ r ≠ q) :
    f_X8_breaksIt (nI p) (nI q) s = some (if zbk G M c0 c1 w p q then 1 else 0, s) := by
  have hn := hZ.1
  unfold f_X8_breaksIt f_X8_breaksIt_53 f_X8_breaksIt_54
  have r1 : zr_i s 91 (nI p) = some (oI (w p)) := by rw [rd_91 s p rfl (by omega), hp1]
  have r2 : zr_i s 91 (nI q) = some (oI (w q)) := by rw [rd_91 s q rfl (by omega), hq1]
  rw [match8 hZ hT hp hq, zbd_some, r1]
  unfold zbk
  by_cases h1 : zmt G M c0 c1 p q = true
  · rw [if_pos h1, if_neg (by decide), Option.bind_some]
    by_cases h2 : w p = some q
    · rw [if_pos ((oI_ne hn hq (fun r hr => (hwp r hr).1)).mpr h2)]
      simp [h2]
    · rw [if_neg (fun z => h2 ((oI_ne hn hq (fun r hr => (hwp r hr).1)).mp z)), Option.bind_some, lo8 hZ hL hp hq hpq (w p) hwp, zbd_some]
      by_cases h3 : zlo G M c1 p q (w p) = true
      · rw [if_pos h3, if_neg (by decide), r2, Option.bind_some, lo8 hZ hL hq hp (Ne.symm hpq) (w q) hwq, zbd_some]
        by_cases h4 : zlo G M c1 q p (w q) = true
        · simp [h1, h2, h3, h4]
        · simp [h4]
      · simp [h3]
  · simp [h1]
theorem hold8 (hZ : ZM s n G M c0 c1) (hL : ZL8 s n G M c1) (hT : ZT8 s n G M c0 c1) {S : Nat} (hS : S < 1024) {w : Nat → Option Nat} (hW : zWS n S w (s.1 91)) :
    f_X8_isHeld (nI S) s = some (if zhd n G M c0 c1 S w then 1 else 0, s) := by
  have hn := hZ.1
  have h3 : zr_i s 77 (1 : Int32) = some (nI n) := by rw [r77_1, hZ.2.1]
  have inner : ∀ (kb : Int32 → Int32 → zS → Option (Int32 × zS)) (p : Nat), p < n → S.testBit p = true → f_X8_isHeld_50 kb (nI S) (nI p) s = ((zfo (fun q => if S.testBit q && zbk G M c0 c1 w p q then some () else none) (n - (p + 1)) (p + 1)).map (fun _ => some ((0 : Int32), s))).getD (kb (nI S) (nI (p + 1)) s) := by
    intro kb p hp hSp
    rw [← zfo_map, f_X8_isHeld_50, zb_eq, nI_1]
    refine zsr (fun q j => f_X8_isHeld_54 kb q (nI S) (nI p) (nI j) s) (p + 1) n _ _ (fun q i hl hi => ?_) (fun q => ?_) (n - (p + 1)) (p + 1) zFU (Nat.le_refl _) (by omega) (by show n - (p + 1) < 5000; omega)
    · show f_X8_isHeld_54 kb (q + 1) (nI S) (nI p) (nI i) s = _
      rw [f_X8_isHeld_54, h3, Option.bind_some, if_neg (nI_ge hi (by omega)), in_ok s (by omega) hS, zbd_some]
      by_cases hb : S.testBit i = true
      · rw [if_pos hb, if_neg (by decide), brk8 hZ hL hT hp hi (by omega) (w := w) (hW p hp hSp).1 (hW i hi hb).1 (hW p hp hSp).2 (hW i hi hb).2, zbd_some]
        by_cases hk : zbk G M c0 c1 w p i = true
        · simp [hb, hk]
        · rw [if_neg hk, if_pos rfl, f_X8_isHeld_84, zb_eq, nI_1]
          simp [hk]
      · rw [if_neg hb, if_pos rfl, f_X8_isHeld_84, zb_eq, nI_1]
        simp [hb]
    · show f_X8_isHeld_54 kb (q + 1) (nI S) (nI p) (nI n) s = _
      rw [f_X8_isHeld_54, h3, Option.bind_some, if_pos (nI_le (Nat.le_refl _) (by omega)), f_X8_isHeld_90, zb_eq, nI_1]
  have outer := zsr (fun q j => f_X8_isHeld_2 q (nI S) (nI j) s) 0 n (fun p => (zhf n G M c0 c1 S w p).map (fun _ => some ((0 : Int32), s))) (some ((1 : Int32), s)) (fun q i _ hi => by
    show f_X8_isHeld_2 (q + 1) (nI S) (nI i) s = _
    rw [f_X8_isHeld_2, h3, Option.bind_some, if_neg (nI_ge hi (by omega)), in_ok s (by omega) hS, zbd_some, zhf]
    by_cases hb : S.testBit i = true
    · obtain ⟨e1, e2⟩ := hW i hi hb
      rw [if_pos hb, if_pos hb, if_pos (by decide), rd_91 s i rfl (by omega), Option.bind_some, e1]
      unfold zbad
      cases hw : w i with
      | none =>
        rw [show oI none = (-1 : Int32) from rfl, if_pos rfl, inner _ i hi hb]
        simp
      | some r =>
        obtain ⟨e3, e4⟩ := e2 r hw
        rw [show oI (some r) = nI r from rfl, if_neg (ne_m1 (by omega)), Option.bind_some, match8 hZ hT hi e3, zbd_some]
        by_cases hm : zmt G M c0 c1 i r = true
        · rw [if_pos hm, if_pos (by decide), inner _ i hi hb]
          simp [hm]
        · simp [hm]
    · rw [if_neg hb, if_neg hb, if_neg (fun z => z rfl), f_X8_isHeld_90, zb_eq, nI_1]
      rfl) (fun q => by
    show f_X8_isHeld_2 (q + 1) (nI S) (nI n) s = _
    rw [f_X8_isHeld_2, h3, Option.bind_some, if_pos (nI_le (Nat.le_refl _) (by omega))]) n 0 zFU (Nat.le_refl _) (by omega) (by show n < 5000; omega)
  rw [zfo_map] at outer
  have outer' : f_X8_isHeld (nI S) s = ((zfo (zhf n G M c0 c1 S w) n 0).map (fun _ => some ((0 : Int32), s))).getD (some ((1 : Int32), s)) := outer
  rw [outer', zhd]
  cases zfo (zhf n G M c0 c1 S w) n 0 <;> rfl
/-- who is with whom, as a function -/
theorem zWV.w {r : Nat → Int32} (h : zWV r n) (hn : n ≤ 7) : ∃ w : Nat → Option Nat, (∀ p, p < n → r p = oI (w p)) ∧ ∀ p q, p < n → w p = some q → q < n ∧ q ≠ p ∧ w q = some p := by
  have key : ∀ p q, p < n → q < n → r p = nI q → r p ≠ -1 ∧ (r p).toNatClampNeg = q := fun p q _ hq e => by
    rw [e]
    exact ⟨ne_m1 (by omega), nI_clamp (by omega)⟩
  refine ⟨fun p => if r p = -1 then none else some (r p).toNatClampNeg, fun p hp => ?_, fun p q hp hq => ?_⟩
  · rcases h p hp with e | ⟨q, h1, h2, h3, h4⟩
    · simp only [e, if_true]; rfl
    · obtain ⟨k1, k2⟩ := key p q hp h1 h3
      simp only [k1, if_false, k2]
      exact h3
  · rcases h p hp with e | ⟨q2, h1, h2, h3, h4⟩
    · simp [e] at hq
    · obtain ⟨k1, k2⟩ := key p q2 hp h1 h3
      simp only [k1, if_false, k2, Option.some.injEq] at hq
      subst hq
      obtain ⟨k3, k4⟩ := key q2 p h1 hp h4
      simp only [k3, if_false, k4]
      exact ⟨h1, h2, trivial⟩
/-- three in a ring -/
def ztri (G M : Nat → Nat) (c0 c1 : List Nat) (a b c : Nat) : Bool := zmt G M c0 c1 a b && (zmt G M c0 c1 b c && (zmt G M c0 c1 a c && (zlm G M c1 a b c && (zlm G M c1 b c a && zlm G M c1 c a b))))
theorem tri7 (hn : n ≤ 7) (hM : JM s n G M c0 c1) {a b c : Nat} (ha : a < n) (hb : b < n) (hc : c < n) (h1 : a ≠ b) (h2 : a ≠ c) (h3 : b ≠ c) : f_X0_isTriangle (nI a) (nI b) (nI c) s = some (if ztri G M c0 c1 a b c then 1 else 0, s) := by
  unfold f_X0_isTriangle f_X0_isTriangle_61 f_X0_isTriangle_62 ztri
  have l1 : f_X0_leaves (nI a) (nI b) (nI c) s = some (if zlm G M c1 a b c then 1 else 0, s) := leav7 hn hM ha hb h1 (some c) (fun r hr => by cases hr; exact ⟨hc, Ne.symm h2⟩)
  have l2 : f_X0_leaves (nI b) (nI c) (nI a) s = some (if zlm G M c1 b c a then 1 else 0, s) := leav7 hn hM hb hc h3 (some a) (fun r hr => by cases hr; exact ⟨ha, h1⟩)
  have l3 : f_X0_leaves (nI c) (nI a) (nI b) s = some (if zlm G M c1 c a b then 1 else 0, s) := leav7 hn hM hc ha (Ne.symm h2) (some b) (fun r hr => by cases hr; exact ⟨hb, h3⟩)
  rw [zmt_sym G M c0 c1 a c, km7 hn hM ha hb, zbd_some, km7 hn hM hb hc, zbd_some, km7 hn hM hc ha, zbd_some, l1, zbd_some, l2, zbd_some, l3, zbd_some]
  cases zmt G M c0 c1 a b <;> cases zmt G M c0 c1 b c <;> cases zmt G M c0 c1 c a <;> cases zlm G M c1 a b c <;> cases zlm G M c1 b c a <;> cases zlm G M c1 c a b <;> simp
theorem tri8 (hZ : ZM s n G M c0 c1) (hL : ZL8 s n G M c1) (hT : ZT8 s n G M c0 c1) {a b c : Nat} (ha : a < n) (hb : b < n) (hc : c < n) (h1 : a ≠ b) (h2 : a ≠ c) (h3 : b ≠ c) : f_X8_isTriangle (nI a) (nI b) (nI c) s = some (if ztri G M c0 c1 a b c then 1 else 0, s) := by
  unfold f_X8_isTriangle f_X8_isTriangle_61 f_X8_isTriangle_62 ztri
  rw [match8 hZ hT ha hb, zbd_some, match8 hZ hT hb hc, zbd_some, match8 hZ hT ha hc, zbd_some, more8 hZ hL ha hb hc h1 h2, zbd_some, more8 hZ hL hb hc ha h3 (Ne.symm h1), zbd_some, more8 hZ hL hc ha hb (Ne.symm h2) (Ne.symm h3), zbd_some]
  cases zmt G M c0 c1 a b <;> cases zmt G M c0 c1 b c <;> cases zmt G M c0 c1 a c <;> cases zlm G M c1 a b c <;> cases zlm G M c1 b c a <;> cases zlm G M c1 c a b <;> simp
end HOLD
