section QUERY2
variable {n : Nat} {G M H D A B : Nat → Nat} {c0 c1 : List Nat} {s : zS}
theorem q_holds (hN : JNx s n G M H D c0 c1) (hK : JK s n G M H c0 c1 A B) : QR f_X7_holds f_X8_holds s n G M H c0 c1 A B := by
  have hn := hN.1.1
  have h128 := pow_128 hn
  obtain ⟨s1, a1, a2, a3, a4, a5⟩ := learnK hK
  have hN1 := hN.keep a4 (by decide)
  obtain ⟨w, w1, w2⟩ := hN1.2.2.1.w hn
  obtain ⟨s2, b1, b2, b3, b4, b5, b6⟩ := now8 hN1.th
  have ev : f_X8_everybody s2 = some (nI (2 ^ n - 1), s2) := by
    rw [f_X8_everybody, r77_1 s2, Option.bind_some, b2.2.1, one_shl n (by omega)]
    exact congrArg (fun x => some (x, s2)) (pk_sub (b := 1) (Nat.one_le_two_pow))
  have g7 : f_X0_holdsAmong 8 (nI (2 ^ n - 1)) s1 = some (if zhd n G M c0 c1 (2 ^ n - 1) w then 1 else 0, s1) := hold7 zd_8 zn_8 a2.1.1.1 a3 (by omega) (fun p hp _ => ⟨by rw [(hN1.2.1 p hp).2.2.2.2]; exact w1 p hp, fun q hq => ⟨(w2 p q hp hq).1, (w2 p q hp hq).2.1⟩⟩)
  have g8 : f_X8_isHeld (nI (2 ^ n - 1)) s2 = some (if zhd n G M c0 c1 (2 ^ n - 1) w then 1 else 0, s2) := hold8 b2 b3 b4 (by omega) (fun p hp _ => ⟨by rw [b5 p (by omega), zs_i_n _ _ _ _ _ (by decide)]; exact w1 p hp, fun q hq => ⟨(w2 p q hp hq).1, (w2 p q hp hq).2.1⟩⟩)
  refine ⟨if zhd n G M c0 c1 (2 ^ n - 1) w then 1 else 0, s1, s2, ?_, ?_, a2, a4.mono (by decide), zk_m.th.tr (b6.mono (by decide)), by rw [(b6.1 93 (by decide)).1, zs_i_n _ _ _ _ _ (by decide)]⟩
  · unfold f_X7_holds f_X7_holds_36
    rw [a1, zbd_some, allK a2.1.1.1, zbd_some, g7, zbd_some]
    cases zhd n G M c0 c1 (2 ^ n - 1) w <;> rfl
  · unfold f_X8_holds f_X8_holds_25
    rw [zb_eq, b1, zbd_some, ev, zbd_some, g8, zbd_some]
    cases zhd n G M c0 c1 (2 ^ n - 1) w <;> rfl
/-- how many break it, and who first -/
def zbc1 (n : Nat) (G M : Nat → Nat) (c0 c1 : List Nat) (w : Nat → Option Nat) (p c : Nat) : Nat := zfd (fun q c => if zbk G M c0 c1 w p q then c + 1 else c) (n - (p + 1)) (p + 1) c
def zbcn (n : Nat) (G M : Nat → Nat) (c0 c1 : List Nat) (w : Nat → Option Nat) : Nat := zfd (zbc1 n G M c0 c1 w) n 0 0
def zbf1 (n : Nat) (G M : Nat → Nat) (c0 c1 : List Nat) (w : Nat → Option Nat) (p : Nat) : Option Nat := zfo (fun q => if zbk G M c0 c1 w p q then some (10 * p + q) else none) (n - (p + 1)) (p + 1)
/-- loop_fold, from a place on -/
theorem loop_fold2 {A R : Type} (F : Nat → Nat → A → R) (lo N : Nat) (g : Nat → A → A) (E : A → R) (P : Nat → A → Prop) (hs : ∀ n i a, lo ≤ i → i < N → P i a → F (n + 1) i a = F n (i + 1) (g i a) ∧ P (i + 1) (g i a)) (hx : ∀ n a, P N a → F (n + 1) N a = E a) :
    ∀ (k i n : Nat) (a : A), lo ≤ i → i + k = N → k < n → P i a → F n i a = E (zfd g k i a) ∧ P N (zfd g k i a) := by
  intro k
  induction k with
  | zero =>
    intro i n a hl hi hn hP
    obtain ⟨n, rfl⟩ : ∃ m, n = m + 1 := ⟨n - 1, by omega⟩
    have e : i = N := by omega
    subst e
    exact ⟨hx n a hP, hP⟩
  | succ k ih =>
    intro i n a hl hi hn hP
    obtain ⟨n, rfl⟩ : ∃ m, n = m + 1 := ⟨n - 1, by omega⟩
    obtain ⟨h1, h2⟩ := hs n i a hl (by omega) hP
    rw [h1]
    exact ih (i + 1) n (g i a) (by omega) (by omega) (by omega) h2
theorem q_breaks (hN : JNx s n G M H D c0 c1) (hK : JK s n G M H c0 c1 A B) : QR f_X7_breaks f_X8_breaks s n G M H c0 c1 A B := by
  have hn := hN.1.1
  obtain ⟨s1, a1, a2, a3, a4, a5⟩ := learnK hK
  have hN1 := hN.keep a4 (by decide)
  obtain ⟨w, w1, w2⟩ := hN1.2.2.1.w hn
  obtain ⟨s2, b1, b2, b3, b4, b5, b6⟩ := now8 hN1.th
  have h3 := a2.1.1.1.2.1
  have k7 : ∀ p q, p < n → q < n → p ≠ q → f_X0_breakIt 8 (nI p) (nI q) s1 = some (if zbk G M c0 c1 w p q then 1 else 0, s1) := fun p q hp hq hpq => brk7 zd_8 zn_8 hn a3 hp hq hpq (by rw [(hN1.2.1 p hp).2.2.2.2]; exact w1 p hp) (by rw [(hN1.2.1 q hq).2.2.2.2]; exact w1 q hq) (fun r hr => ⟨(w2 p r hp hr).1, (w2 p r hp hr).2.1⟩) (fun r hr => ⟨(w2 q r hq hr).1, (w2 q r hq hr).2.1⟩)
  have e91 : ∀ p, p < n → s2.1 91 p = oI (w p) := fun p hp => by rw [b5 p (by omega), zs_i_n _ _ _ _ _ (by decide)]; exact w1 p hp
  have k8 : ∀ p q, p < n → q < n → p ≠ q → f_X8_breaksIt (nI p) (nI q) s2 = some (if zbk G M c0 c1 w p q then 1 else 0, s2) := fun p q hp hq hpq => brk8 b2 b3 b4 hp hq hpq (e91 p hp) (e91 q hq) (fun r hr => ⟨(w2 p r hp hr).1, (w2 p r hp hr).2.1⟩) (fun r hr => ⟨(w2 q r hq hr).1, (w2 q r hq hr).2.1⟩)
  have r7 : f_X7_breaks_11 zFU 0 0 s1 = some (nI (zbcn n G M c0 c1 w), s1) := by
    have inner : ∀ kb p c, p < n → f_X7_breaks_26 kb zFU (nI c) (nI p) (nI (p + 1)) s1 = kb (nI (zbc1 n G M c0 c1 w p c)) (nI (p + 1)) s1 := fun kb p c hp => (loop_fold2 (fun q j c => f_X7_breaks_26 kb q (nI c) (nI p) (nI j) s1) (p + 1) n (fun q c => if zbk G M c0 c1 w p q then c + 1 else c) (fun c => kb (nI c) (nI (p + 1)) s1) (fun _ _ => True) (fun q i c hl hi _ => by
      refine ⟨?_, trivial⟩
      show f_X7_breaks_26 kb (q + 1) (nI c) (nI p) (nI i) s1 = _
      rw [f_X7_breaks_26, h3, if_neg (nI_ge hi (by omega)), k7 p i hp hi (by omega), zbd_some]
      by_cases hb : zbk G M c0 c1 w p i = true
      · rw [if_pos hb, if_neg (by decide), zb_eq, f_X7_breaks_59, zb_eq, nI_1, nI_1]
        simp only [hb, if_true]
      · rw [if_neg hb, if_pos rfl, f_X7_breaks_59, zb_eq, nI_1]
        simp only [hb]
        rfl) (fun q c _ => by
      show f_X7_breaks_26 kb (q + 1) (nI c) (nI p) (nI n) s1 = _
      rw [f_X7_breaks_26, h3, if_pos (nI_le (Nat.le_refl _) (by omega)), zb_eq, nI_1]) (n - (p + 1)) (p + 1) zFU c (Nat.le_refl _) (by omega) (by show n - (p + 1) < 5000; omega) trivial).1
    exact (loop_fold (fun q p c => f_X7_breaks_11 q (nI c) (nI p) s1) n (zbc1 n G M c0 c1 w) (fun c => some (nI c, s1)) (fun _ _ => True) (fun q i c hi _ => by
      refine ⟨?_, trivial⟩
      show f_X7_breaks_11 (q + 1) (nI c) (nI i) s1 = _
      rw [f_X7_breaks_11, h3, if_neg (nI_ge hi (by omega)), zb_eq, nI_1, inner _ i c hi]) (fun q c _ => by
      show f_X7_breaks_11 (q + 1) (nI c) (nI n) s1 = _
      rw [f_X7_breaks_11, h3, if_pos (nI_le (Nat.le_refl _) (by omega))]) n 0 zFU 0 (by omega) (by show n < 5000; omega) trivial).1
  have e3 : zr_i s2 77 (1 : Int32) = some (nI n) := by rw [r77_1, b2.2.1]
  have r8 : f_X8_breakingAt (-1) s2 = some (nI (zbcn n G M c0 c1 w), s2) := by
    have inner : ∀ kb p c, p < n → c ≤ 7 * p → f_X8_breakingAt_19 kb zFU (-1) (nI c) (nI p) (nI (p + 1)) s2 = kb (-1) (nI (zbc1 n G M c0 c1 w p c)) (nI (p + 1)) s2 ∧ zbc1 n G M c0 c1 w p c ≤ 7 * (p + 1) := fun kb p c hp hc => by
      have K := loop_fold2 (fun q j c => f_X8_breakingAt_19 kb q (-1) (nI c) (nI p) (nI j) s2) (p + 1) n (fun q c => if zbk G M c0 c1 w p q then c + 1 else c) (fun c => kb (-1) (nI c) (nI (p + 1)) s2) (fun j c => c ≤ 7 * p + j) (fun q i c hl hi hc => by
        constructor
        · show f_X8_breakingAt_19 kb (q + 1) (-1) (nI c) (nI p) (nI i) s2 = _
          rw [f_X8_breakingAt_19, e3, Option.bind_some, if_neg (nI_ge hi (by omega)), k8 p i hp hi (by omega), zbd_some]
          by_cases hb : zbk G M c0 c1 w p i = true
          · rw [if_pos hb, if_pos (by decide), if_pos (ne_m1 (by omega)), zb_eq, f_X8_breakingAt_59, zb_eq, nI_1, nI_1]
            simp only [hb, if_true]
          · rw [if_neg hb, if_neg (fun z => z rfl), f_X8_breakingAt_59, zb_eq, nI_1]
            simp only [hb]
            rfl
        · show (if zbk G M c0 c1 w p i = true then c + 1 else c) ≤ 7 * p + (i + 1)
          split <;> omega) (fun q c _ => by
        show f_X8_breakingAt_19 kb (q + 1) (-1) (nI c) (nI p) (nI n) s2 = _
        rw [f_X8_breakingAt_19, e3, Option.bind_some, if_pos (nI_le (Nat.le_refl _) (by omega)), zb_eq, nI_1]) (n - (p + 1)) (p + 1) zFU c (Nat.le_refl _) (by omega) (by show n - (p + 1) < 5000; omega) (by omega)
      exact ⟨K.1, by have := K.2; show zfd _ _ _ _ ≤ _; omega⟩
    exact (loop_fold (fun q p c => f_X8_breakingAt_4 q (-1) (nI c) (nI p) s2) n (zbc1 n G M c0 c1 w) (fun c => some (nI c, s2)) (fun p c => c ≤ 7 * p) (fun q i c hi hc => by
      obtain ⟨z1, z2⟩ := inner (f_X8_breakingAt_4 q) i c hi hc
      refine ⟨?_, z2⟩
      show f_X8_breakingAt_4 (q + 1) (-1) (nI c) (nI i) s2 = _
      rw [f_X8_breakingAt_4, e3, Option.bind_some, if_neg (nI_ge hi (by omega)), zb_eq, nI_1, z1]) (fun q c _ => by
      show f_X8_breakingAt_4 (q + 1) (-1) (nI c) (nI n) s2 = _
      rw [f_X8_breakingAt_4, e3, Option.bind_some, if_pos (nI_le (Nat.le_refl _) (by omega)), if_neg (by decide)]
      rfl) n 0 zFU 0 (by omega) (by show n < 5000; omega) (by omega)).1
  refine ⟨nI (zbcn n G M c0 c1 w), s1, s2, ?_, ?_, a2, a4.mono (by decide), zk_m.th.tr (b6.mono (by decide)), by rw [(b6.1 93 (by decide)).1, zs_i_n _ _ _ _ _ (by decide)]⟩
  · rw [f_X7_breaks, a1, zbd_some, r7]
  · rw [f_X8_breaks, zb_eq, b1, zbd_some, r8, zbd_some]
theorem q_breaking (hN : JNx s n G M H D c0 c1) (hK : JK s n G M H c0 c1 A B) : QR f_X7_breaking f_X8_breaking s n G M H c0 c1 A B := by
  have hn := hN.1.1
  obtain ⟨s1, a1, a2, a3, a4, a5⟩ := learnK hK
  have hN1 := hN.keep a4 (by decide)
  obtain ⟨w, w1, w2⟩ := hN1.2.2.1.w hn
  obtain ⟨s2, b1, b2, b3, b4, b5, b6⟩ := now8 hN1.th
  have h3 := a2.1.1.1.2.1
  have k7 : ∀ p q, p < n → q < n → p ≠ q → f_X0_breakIt 8 (nI p) (nI q) s1 = some (if zbk G M c0 c1 w p q then 1 else 0, s1) := fun p q hp hq hpq => brk7 zd_8 zn_8 hn a3 hp hq hpq (by rw [(hN1.2.1 p hp).2.2.2.2]; exact w1 p hp) (by rw [(hN1.2.1 q hq).2.2.2.2]; exact w1 q hq) (fun r hr => ⟨(w2 p r hp hr).1, (w2 p r hp hr).2.1⟩) (fun r hr => ⟨(w2 q r hq hr).1, (w2 q r hq hr).2.1⟩)
  have e91 : ∀ p, p < n → s2.1 91 p = oI (w p) := fun p hp => by rw [b5 p (by omega), zs_i_n _ _ _ _ _ (by decide)]; exact w1 p hp
  have k8 : ∀ p q, p < n → q < n → p ≠ q → f_X8_breaksIt (nI p) (nI q) s2 = some (if zbk G M c0 c1 w p q then 1 else 0, s2) := fun p q hp hq hpq => brk8 b2 b3 b4 hp hq hpq (e91 p hp) (e91 q hq) (fun r hr => ⟨(w2 p r hp hr).1, (w2 p r hp hr).2.1⟩) (fun r hr => ⟨(w2 q r hq hr).1, (w2 q r hq hr).2.1⟩)
  have r7 : f_X7_breaking_9 zFU 0 s1 = ((zfo (zbf1 n G M c0 c1 w) n 0).map (fun v => some (nI v, s1))).getD (some (-1, s1)) := by
    have inner : ∀ (kb : Int32 → zS → Option (Int32 × zS)) p, p < n → f_X7_breaking_24 kb zFU (nI p) (nI (p + 1)) s1 = ((zbf1 n G M c0 c1 w p).map (fun v => some (nI v, s1))).getD (kb (nI (p + 1)) s1) := fun kb p hp => by
      rw [zbf1, ← zfo_map]
      refine zsr (fun q j => f_X7_breaking_24 kb q (nI p) (nI j) s1) (p + 1) n _ _ (fun q i hl hi => ?_) (fun q => ?_) (n - (p + 1)) (p + 1) zFU (Nat.le_refl _) (by omega) (by show n - (p + 1) < 5000; omega)
      · show f_X7_breaking_24 kb (q + 1) (nI p) (nI i) s1 = _
        rw [f_X7_breaking_24, h3, if_neg (nI_ge hi (by omega)), k7 p i hp hi (by omega), zbd_some]
        by_cases hb : zbk G M c0 c1 w p i = true
        · rw [if_pos hb, if_neg (by decide), pk_mul, nI_add]
          simp [hb]
        · rw [if_neg hb, if_pos rfl, zb_eq, nI_1]
          simp [hb]
      · show f_X7_breaking_24 kb (q + 1) (nI p) (nI n) s1 = _
        rw [f_X7_breaking_24, h3, if_pos (nI_le (Nat.le_refl _) (by omega)), zb_eq, nI_1]
    rw [← zfo_map]
    refine zsr (fun q j => f_X7_breaking_9 q (nI j) s1) 0 n _ _ (fun q i hl hi => ?_) (fun q => ?_) n 0 zFU (Nat.le_refl _) (by omega) (by show n < 5000; omega)
    · show f_X7_breaking_9 (q + 1) (nI i) s1 = _
      rw [f_X7_breaking_9, h3, if_neg (nI_ge hi (by omega)), zb_eq, nI_1, inner _ i hi]
    · show f_X7_breaking_9 (q + 1) (nI n) s1 = _
      rw [f_X7_breaking_9, h3, if_pos (nI_le (Nat.le_refl _) (by omega))]
  have e3 : zr_i s2 77 (1 : Int32) = some (nI n) := by rw [r77_1, b2.2.1]
  have r8 : f_X8_breakingAt_4 zFU 0 0 0 s2 = ((zfo (zbf1 n G M c0 c1 w) n 0).map (fun v => some (nI v, s2))).getD (some (-1, s2)) := by
    have inner : ∀ (kb : Int32 → Int32 → Int32 → zS → Option (Int32 × zS)) p, p < n → f_X8_breakingAt_19 kb zFU 0 0 (nI p) (nI (p + 1)) s2 = ((zbf1 n G M c0 c1 w p).map (fun v => some (nI v, s2))).getD (kb 0 0 (nI (p + 1)) s2) := fun kb p hp => by
      rw [zbf1, ← zfo_map]
      refine zsr (fun q j => f_X8_breakingAt_19 kb q 0 0 (nI p) (nI j) s2) (p + 1) n _ _ (fun q i hl hi => ?_) (fun q => ?_) (n - (p + 1)) (p + 1) zFU (Nat.le_refl _) (by omega) (by show n - (p + 1) < 5000; omega)
      · show f_X8_breakingAt_19 kb (q + 1) 0 0 (nI p) (nI i) s2 = _
        rw [f_X8_breakingAt_19, e3, Option.bind_some, if_neg (nI_ge hi (by omega)), k8 p i hp hi (by omega), zbd_some]
        by_cases hb : zbk G M c0 c1 w p i = true
        · rw [if_pos hb, if_pos (by decide), if_neg (fun z => z rfl), pk_mul, nI_add]
          simp [hb]
        · rw [if_neg hb, if_neg (fun z => z rfl), f_X8_breakingAt_59, zb_eq, nI_1]
          simp [hb]
      · show f_X8_breakingAt_19 kb (q + 1) 0 0 (nI p) (nI n) s2 = _
        rw [f_X8_breakingAt_19, e3, Option.bind_some, if_pos (nI_le (Nat.le_refl _) (by omega)), zb_eq, nI_1]
    rw [← zfo_map]
    refine zsr (fun q j => f_X8_breakingAt_4 q 0 0 (nI j) s2) 0 n _ _ (fun q i hl hi => ?_) (fun q => ?_) n 0 zFU (Nat.le_refl _) (by omega) (by show n < 5000; omega)
    · show f_X8_breakingAt_4 (q + 1) 0 0 (nI i) s2 = _
      rw [f_X8_breakingAt_4, e3, Option.bind_some, if_neg (nI_ge hi (by omega)), zb_eq, nI_1, inner _ i hi]
    · show f_X8_breakingAt_4 (q + 1) 0 0 (nI n) s2 = _
      rw [f_X8_breakingAt_4, e3, Option.bind_some, if_pos (nI_le (Nat.le_refl _) (by omega)), if_pos (by decide)]
      rfl
  refine ⟨((zfo (zbf1 n G M c0 c1 w) n 0).map nI).getD (-1), s1, s2, ?_, ?_, a2, a4.mono (by decide), zk_m.th.tr (b6.mono (by decide)), by rw [(b6.1 93 (by decide)).1, zs_i_n _ _ _ _ _ (by decide)]⟩
  · rw [f_X7_breaking, a1, zbd_some, r7]
    cases zfo (zbf1 n G M c0 c1 w) n 0 <;> rfl
  · rw [f_X8_breaking, zb_eq, b1, zbd_some, f_X8_breakingAt, r8]
    cases zfo (zbf1 n G M c0 c1 w) n 0 <;> rfl
def ztr2 (n : Nat) (G M : Nat → Nat) (c0 c1 : List Nat) (a b : Nat) : Option Nat := zfo (fun c => if decide (b ≠ c) && ztri G M c0 c1 a b c then some (100 * a + 10 * b + c) else none) (n - (a + 1)) (a + 1)
def ztr1 (n : Nat) (G M : Nat → Nat) (c0 c1 : List Nat) (a : Nat) : Option Nat := zfo (ztr2 n G M c0 c1 a) (n - (a + 1)) (a + 1)
theorem q_triangle (hN : JNx s n G M H D c0 c1) (hK : JK s n G M H c0 c1 A B) : QR f_X7_triangle f_X8_triangle s n G M H c0 c1 A B := by
  have hn := hN.1.1
  obtain ⟨s1, a1, a2, a3, a4, a5⟩ := learnK hK
  have hN1 := hN.keep a4 (by decide)
  obtain ⟨s2, b1, b2, b3, b4, b5⟩ := lays8 hN1.th.m
  have hZ2 := hN1.th.m.keep b5.1 (by decide)
  have h3 := a2.1.1.1.2.1
  have e3 : zr_i s2 77 (1 : Int32) = some (nI n) := by rw [r77_1, hZ2.2.1]
  have r7 : f_X7_triangle_9 zFU 0 s1 = ((zfo (ztr1 n G M c0 c1) n 0).map (fun v => some (nI v, s1))).getD (some (-1, s1)) := by
    have in2 : ∀ (k1 : Int32 → zS → Option (Int32 × zS)) (kb : Int32 → Int32 → zS → Option (Int32 × zS)) a b, a < n → b < n → a < b → f_X7_triangle_39 k1 kb zFU (nI a) (nI b) (nI (a + 1)) s1 = ((ztr2 n G M c0 c1 a b).map (fun v => some (nI v, s1))).getD (kb (nI a) (nI (b + 1)) s1) := fun k1 kb a b ha hb hab => by
      rw [ztr2, ← zfo_map]
      refine zsr (fun q j => f_X7_triangle_39 k1 kb q (nI a) (nI b) (nI j) s1) (a + 1) n _ _ (fun q i hl hi => ?_) (fun q => ?_) (n - (a + 1)) (a + 1) zFU (Nat.le_refl _) (by omega) (by show n - (a + 1) < 5000; omega)
      · show f_X7_triangle_39 k1 kb (q + 1) (nI a) (nI b) (nI i) s1 = _
        rw [f_X7_triangle_39, h3, if_neg (nI_ge hi (by omega))]
        by_cases e : b = i
        · rw [if_pos (by rw [e]), f_X7_triangle_80, zb_eq, nI_1]
          simp [e]
        · rw [if_neg (ne_of_nI e (by omega) (by omega)), tri7 hn a3 ha hb hi (by omega) (by omega) e, zbd_some]
          by_cases ht : ztri G M c0 c1 a b i = true
          · rw [if_pos ht, if_neg (by decide), pk_mul, pk_mul, nI_add, nI_add]
            simp [e, ht]
          · rw [if_neg ht, if_pos rfl, f_X7_triangle_80, zb_eq, nI_1]
            simp [ht]
      · show f_X7_triangle_39 k1 kb (q + 1) (nI a) (nI b) (nI n) s1 = _
        rw [f_X7_triangle_39, h3, if_pos (nI_le (Nat.le_refl _) (by omega)), zb_eq, nI_1]
    have in1 : ∀ (kb : Int32 → zS → Option (Int32 × zS)) a, a < n → f_X7_triangle_24 kb zFU (nI a) (nI (a + 1)) s1 = ((ztr1 n G M c0 c1 a).map (fun v => some (nI v, s1))).getD (kb (nI (a + 1)) s1) := fun kb a ha => by
      rw [ztr1, ← zfo_map]
      refine zsr (fun q j => f_X7_triangle_24 kb q (nI a) (nI j) s1) (a + 1) n _ _ (fun q i hl hi => ?_) (fun q => ?_) (n - (a + 1)) (a + 1) zFU (Nat.le_refl _) (by omega) (by show n - (a + 1) < 5000; omega)
      · show f_X7_triangle_24 kb (q + 1) (nI a) (nI i) s1 = _
        rw [f_X7_triangle_24, h3, if_neg (nI_ge hi (by omega)), zb_eq, nI_1, in2 _ _ a i ha hi (by omega)]
      · show f_X7_triangle_24 kb (q + 1) (nI a) (nI n) s1 = _
        rw [f_X7_triangle_24, h3, if_pos (nI_le (Nat.le_refl _) (by omega)), zb_eq, nI_1]
    rw [← zfo_map]
    refine zsr (fun q j => f_X7_triangle_9 q (nI j) s1) 0 n _ _ (fun q i hl hi => ?_) (fun q => ?_) n 0 zFU (Nat.le_refl _) (by omega) (by show n < 5000; omega)
    · show f_X7_triangle_9 (q + 1) (nI i) s1 = _
      rw [f_X7_triangle_9, h3, if_neg (nI_ge hi (by omega)), zb_eq, nI_1, in1 _ i hi]
    · show f_X7_triangle_9 (q + 1) (nI n) s1 = _
      rw [f_X7_triangle_9, h3, if_pos (nI_le (Nat.le_refl _) (by omega))]
  have r8 : f_X8_triangle_11 zFU 0 s2 = ((zfo (ztr1 n G M c0 c1) n 0).map (fun v => some (nI v, s2))).getD (some (-1, s2)) := by
    have in2 : ∀ (k1 : Int32 → zS → Option (Int32 × zS)) (kb : Int32 → Int32 → zS → Option (Int32 × zS)) a b, a < n → b < n → a < b → f_X8_triangle_39 k1 kb zFU (nI a) (nI b) (nI (a + 1)) s2 = ((ztr2 n G M c0 c1 a b).map (fun v => some (nI v, s2))).getD (kb (nI a) (nI (b + 1)) s2) := fun k1 kb a b ha hb hab => by
      rw [ztr2, ← zfo_map]
      refine zsr (fun q j => f_X8_triangle_39 k1 kb q (nI a) (nI b) (nI j) s2) (a + 1) n _ _ (fun q i hl hi => ?_) (fun q => ?_) (n - (a + 1)) (a + 1) zFU (Nat.le_refl _) (by omega) (by show n - (a + 1) < 5000; omega)
      · show f_X8_triangle_39 k1 kb (q + 1) (nI a) (nI b) (nI i) s2 = _
        rw [f_X8_triangle_39, e3, Option.bind_some, if_neg (nI_ge hi (by omega))]
        by_cases e : b = i
        · rw [if_pos (by rw [e]), f_X8_triangle_76, zb_eq, nI_1]
          simp [e]
        · rw [if_neg (ne_of_nI e (by omega) (by omega)), tri8 hZ2 b3 b4 ha hb hi (by omega) (by omega) e, zbd_some]
          by_cases ht : ztri G M c0 c1 a b i = true
          · rw [if_pos ht, if_neg (by decide), pk_mul, pk_mul, nI_add, nI_add]
            simp [e, ht]
          · rw [if_neg ht, if_pos rfl, f_X8_triangle_76, zb_eq, nI_1]
            simp [ht]
      · show f_X8_triangle_39 k1 kb (q + 1) (nI a) (nI b) (nI n) s2 = _
        rw [f_X8_triangle_39, e3, Option.bind_some, if_pos (nI_le (Nat.le_refl _) (by omega)), zb_eq, nI_1]
    have in1 : ∀ (kb : Int32 → zS → Option (Int32 × zS)) a, a < n → f_X8_triangle_25 kb zFU (nI a) (nI (a + 1)) s2 = ((ztr1 n G M c0 c1 a).map (fun v => some (nI v, s2))).getD (kb (nI (a + 1)) s2) := fun kb a ha => by
      rw [ztr1, ← zfo_map]
      refine zsr (fun q j => f_X8_triangle_25 kb q (nI a) (nI j) s2) (a + 1) n _ _ (fun q i hl hi => ?_) (fun q => ?_) (n - (a + 1)) (a + 1) zFU (Nat.le_refl _) (by omega) (by show n - (a + 1) < 5000; omega)
      · show f_X8_triangle_25 kb (q + 1) (nI a) (nI i) s2 = _
        rw [f_X8_triangle_25, e3, Option.bind_some, if_neg (nI_ge hi (by omega)), zb_eq, nI_1, in2 _ _ a i ha hi (by omega)]
      · show f_X8_triangle_25 kb (q + 1) (nI a) (nI n) s2 = _
        rw [f_X8_triangle_25, e3, Option.bind_some, if_pos (nI_le (Nat.le_refl _) (by omega)), zb_eq, nI_1]
    rw [← zfo_map]
    refine zsr (fun q j => f_X8_triangle_11 q (nI j) s2) 0 n _ _ (fun q i hl hi => ?_) (fun q => ?_) n 0 zFU (Nat.le_refl _) (by omega) (by show n < 5000; omega)
    · show f_X8_triangle_11 (q + 1) (nI i) s2 = _
      rw [f_X8_triangle_11, e3, Option.bind_some, if_neg (nI_ge hi (by omega)), zb_eq, nI_1, in1 _ i hi]
    · show f_X8_triangle_11 (q + 1) (nI n) s2 = _
      rw [f_X8_triangle_11, e3, Option.bind_some, if_pos (nI_le (Nat.le_refl _) (by omega))]
  refine ⟨((zfo (ztr1 n G M c0 c1) n 0).map nI).getD (-1), s1, s2, ?_, ?_, a2, a4.mono (by decide), zk_m.th.tr (b5.mono (by decide)), by rw [(b5.1 93 (by decide)).1, zs_i_n _ _ _ _ _ (by decide)]⟩
  · rw [f_X7_triangle, a1, zbd_some, r7]
    cases zfo (ztr1 n G M c0 c1) n 0 <;> rfl
  · rw [f_X8_triangle, zb_eq, b1, zbd_some, r8]
    cases zfo (ztr1 n G M c0 c1) n 0 <;> rfl
end QUERY2
