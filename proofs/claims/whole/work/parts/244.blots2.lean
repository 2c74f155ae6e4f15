theorem zodd_sum (D : Nat → Nat) (m : Nat) : ∀ n, zodd n D m = zsum n (fun p => if m.testBit p then D p else 0) := by
  intro n
  unfold zodd
  induction n with
  | zero => rfl
  | succ n ih => rw [zfd_last, ih, Nat.zero_add]; rfl
theorem zodd_split {n : Nat} (hn : n ≤ 7) (D : Nat → Nat) (m k : Nat) : zodd n D m = zodd n D (m &&& k) + zodd n D (m &&& (127 ^^^ k)) := by
  rw [zodd_sum, zodd_sum, zodd_sum, ← zsum_add]
  refine zsum_congr n (fun p hp => ?_)
  have h127 : (127 : Nat).testBit p = true := (by decide : ∀ p, p < 7 → (127 : Nat).testBit p = true) p (by omega)
  rw [Nat.testBit_and, Nat.testBit_and, Nat.testBit_xor, h127]
  cases m.testBit p <;> cases k.testBit p <;> simp
theorem zodd_le {n : Nat} {D : Nat → Nat} (hn : n ≤ 7) (hD : ∀ p, p < n → D p < 10) (m : Nat) : zodd n D m ≤ 63 := by
  rw [zodd_sum]
  have := zsum_le (f := fun p => if m.testBit p then D p else 0) (k := 9) n (fun p hp => by
    have := hD p hp
    show (if m.testBit p then D p else 0) ≤ 9
    split <;> omega)
  omega
theorem and_not {m k : Nat} (hm : m < 128) : nI m &&& (nI k ^^^ (-1 : Int32)) = nI (m &&& (127 ^^^ k)) := b_ext (fun i hi => by
  rw [b_and, b_xor, b_m1 i hi, bt_nI, bt_nI, bt_nI, Nat.testBit_and, Nat.testBit_xor]
  by_cases h7 : i < 7
  · have h127 : (127 : Nat).testBit i = true := (by decide : ∀ p, p < 7 → (127 : Nat).testBit p = true) i h7
    rw [h127]
    cases m.testBit i <;> cases k.testBit i <;> simp
  · rw [Nat.testBit_lt_two_pow (x := m) (i := i) (Nat.lt_of_lt_of_le hm (by
      have : 2 ^ 7 ≤ 2 ^ i := Nat.pow_le_pow_right (by decide) (by omega)
      omega))]
    simp)
/-- the best so far, and how good -/
def zmo (L : Nat → Nat) : Option Nat → Int32
  | none => -1
  | some d => nI (L d)
def zbl (L : Nat → Nat) (c : Nat) : Option Nat → Option Nat
  | none => some c
  | some d => if L d < L c then some c else some d
theorem zmo_lt {L : Nat → Nat} (hL : ∀ c, L c < 1000) (c : Nat) (b : Option Nat) : (nI (L c) ≤ zmo L b → zbl L c b = b) ∧ (¬ nI (L c) ≤ zmo L b → zbl L c b = some c) := by
  have hc := hL c
  cases b with
  | none =>
    refine ⟨fun h => ?_, fun _ => rfl⟩
    have h1 := Int32.le_iff_toInt_le.mp h
    have h2 : (zmo L none).toInt = -1 := rfl
    rw [nI_toInt (by omega)] at h1
    omega
  | some d =>
    have hd := hL d
    show (nI (L c) ≤ nI (L d) → (if L d < L c then some c else some d) = some d) ∧ (¬ nI (L c) ≤ nI (L d) → (if L d < L c then some c else some d) = some c)
    rw [nI_leI (by omega) (by omega)]
    exact ⟨fun h => if_neg (by omega), fun h => if_pos (by omega)⟩
section BLOTS2
variable {n : Nat} {G M H D A B : Nat → Nat} {c0 c1 : List Nat} {s : zS}
theorem q_blot (hN : JNx s n G M H D c0 c1) (hK : JK s n G M H c0 c1 A B) (hY : JY s) (a : Int32) : QR (f_X7_blot a) (f_X8_blot a) s n G M H c0 c1 A B := by
  rcases blot2 hN hY a with ⟨h1, h2, -⟩ | ⟨h1, -, ⟨r, hr, h2, h3⟩ | ⟨m, hm, h2, h3, h4⟩⟩
  · refine QR.no hK (-2) ?_ ?_
    · rw [f_X7_blot, h1, zbd_some, if_pos rfl]; rfl
    · rw [f_X8_blot, zb_eq, h2, zbd_some, if_neg (by decide)]; rfl
  · refine QR.no hK r ?_ ?_
    · rw [f_X7_blot, h1, zbd_some, if_neg (by decide), h2, zbd_some]; rfl
    · rw [f_X8_blot, zb_eq, h3, zbd_some, if_neg (fun z => by rw [z] at hr; exact absurd hr (by decide))]; rfl
  · refine QR.no hK (nI m) ?_ ?_
    · rw [f_X7_blot, h1, zbd_some, if_neg (by decide), h2, zbd_some]; rfl
    · rw [f_X8_blot, zb_eq, h3, zbd_some, if_pos rfl, h4, zbd_some]; rfl
theorem q_likely (hN : JNx s n G M H D c0 c1) (hK : JK s n G M H c0 c1 A B) (hY : JY s) (a b c : Int32) : QR (f_X7_likely a b c) (f_X8_likely a b c) s n G M H c0 c1 A B := by
  have hn := hN.1.1
  have h128 := pow_128 hn
  have hD : ∀ p, p < n → D p < 10 := fun p hp => (hN.2.1 p hp).2.2.2.1.2.2
  rcases blot2 hN hY a with ⟨h1, h2, h3⟩ | ⟨h1, hw, hrest⟩
  · refine QR.no hK (-2) ?_ ?_
    · rw [f_X7_likely, h1, zbd_some, if_pos rfl]; rfl
    · rw [f_X8_likely, zb_eq, h3, zbd_some, if_pos rfl]; rfl
  rcases per_cases hN b with ⟨p1, p2⟩ | ⟨p, hp, rfl⟩
  · refine QR.no hK (-2) ?_ ?_
    · rw [f_X7_likely, h1, zbd_some, if_neg (by decide), p1, zbd_some, if_pos rfl]; rfl
    · rw [f_X8_likely, zb_eq, hw, zbd_some, if_neg (by decide), p2 _ hN.th, zbd_some, if_pos rfl]; rfl
  have e7 : ∀ x, f_X7_likely a (nI p) x s = (if x < 0 then f_X7_likely_31 s else if x ≤ (1 : Int32) then zbd (f_X7_blotted a s) fun r7 s8 => if 0 ≤ r7 then (zbd (f_X5_oddsOfSet_3 r7 s8) fun r9 s10 => if ¬ r9 = 0 then (if ¬ ((zo_ush r7 (nI p)) &&& (1 : Int32)) = (1 : Int32) then (f_X7_likely_90 x r9 (0 : Int32) s10) else (zr_i s10 7 (nI p)).bind fun x11 => f_X7_likely_90 x r9 x11 s10) else some ((-1 : Int32), s10)) else some (r7, s8) else f_X7_likely_31 s) := fun x => by
    rw [f_X7_likely, h1, zbd_some, if_neg (by decide), has_in hN hp, zbd_some, if_neg (by decide)]
  have e8 : ∀ x, f_X8_likely a (nI p) x s = (zbd (f_X8_within (x.toInt64) (0 : Int64) (1 : Int64) (zs_i s 76 0 0)) fun r10 s11 => if ¬ r10 = 0 then (zbd (f_X8_noBlot a s11) fun r12 s13 => if r12 = 0 then (zbd (f_X8_blotSet a s13) fun r14 s15 => zbd (f_X8_oddsOf r14 s15) fun r16 s17 => if ¬ r16 = 0 then (zbd (f_X8_isIn (r14.toInt64) (nI p) s17) fun r18 s19 => if r18 = 0 then (f_X8_likely_97 x r14 (0 : Int32) s19) else (zr_i s19 77 ((nI 15) + (nI p))).bind fun x20 => f_X8_likely_97 x r14 x20 s19) else f_X8_likely_107 (-1 : Int32) s17) else some (r12, s13)) else f_X8_likely_36 s11) := fun x => by
    rw [f_X8_likely, zb_eq, hw, zbd_some, if_neg (by decide), per_in hN.th hp, zbd_some, if_neg (by decide)]
  rcases i_cases c 2 (by decide) with ⟨h, h'⟩ | ⟨h0, h⟩ | ⟨k, hk, rfl⟩
  · refine QR.no hK (-2) ?_ ?_
    · rw [e7, if_pos h]; rfl
    · rw [e8, wi_neg _ h, zbd_some, if_neg (fun z => z rfl)]; rfl
  · refine QR.no hK (-2) ?_ ?_
    · rw [e7, if_neg h0, if_neg (fun z => by
        have h1 := Int32.le_iff_toInt_le.mp h
        have h2 := Int32.le_iff_toInt_le.mp z
        rw [nI_toInt (by decide)] at h1
        have h3 : (1 : Int32).toInt = 1 := rfl
        omega)]; rfl
    · rw [e8, wi_big _ (m := 1) (by decide) rfl h, zbd_some, if_neg (fun z => z rfl)]; rfl
  have e7' := e7 (nI k)
  rw [if_neg (nI_pos (by omega)), if_pos (show nI k ≤ (1 : Int32) from le_c 1 rfl (by omega) (by decide))] at e7'
  have e8' := e8 (nI k)
  rw [wi_in _ (m := 1) (by omega) (by decide) rfl, zbd_some, if_pos (by decide)] at e8'
  rcases hrest with ⟨r, hr, h2, h3⟩ | ⟨m, hm, h2, h3, h4⟩
  · refine QR.no hK r ?_ ?_
    · rw [e7', h2, zbd_some, if_neg (Int32.not_le.mpr hr)]
    · rw [e8', h3, zbd_some, if_neg (fun z => by rw [z] at hr; exact absurd hr (by decide))]
  rw [h2, zbd_some, if_pos (nI_pos' (by omega)), odd7 hN (by omega), zbd_some] at e7'
  rw [h3, zbd_some, if_pos rfl, h4, zbd_some, odd8 hN.th (by omega), zbd_some] at e8'
  have ho := zodd_le hn hD m
  by_cases hz : zodd n D m = 0
  · refine QR.no hK (-1) ?_ ?_
    · rw [e7', hz, if_neg (fun z => z rfl)]
    · rw [e8', hz, if_neg (fun z => z rfl)]; rfl
  rw [if_pos (nI_ne0 (by omega) (by omega)), ush_tb (by omega) (by omega)] at e7'
  rw [if_pos (nI_ne0 (by omega) (by omega)), in_ok _ (by omega) (by omega), zbd_some] at e8'
  have fin : ∀ own, own < 10 → f_X7_likely a (nI p) (nI k) s = f_X7_likely_90 (nI k) (nI (zodd n D m)) (nI own) s → f_X8_likely a (nI p) (nI k) s = f_X8_likely_97 (nI k) (nI m) (nI own) (zs_i s 76 0 0) → QR (f_X7_likely a (nI p) (nI k)) (f_X8_likely a (nI p) (nI k)) s n G M H c0 c1 A B := fun own ho2 z1 z2 => by
    obtain ⟨r, f7, f8⟩ := frac (a := own) (b := zodd n D m) s (zs_i s 76 0 0) (nI k) (by omega) (by omega) (by omega)
    refine QR.no hK r ?_ ?_
    · rw [z1, f_X7_likely_90, f7, zbd_some]
    · rw [z2, f_X8_likely_97, odd8 hN.th (by omega), zbd_some, f8, zbd_some]; rfl
  by_cases hb : m.testBit p = true
  · obtain ⟨x1, x2, x3⟩ := (hN.2.1 p hp).2.2.2.1
    rw [if_pos hb, if_neg (fun z => z rfl), rd_7 s p rfl (by omega), Option.bind_some, x2] at e7'
    rw [if_pos hb, if_neg (by decide), rd_77 _ (15 + p) (nI_add _ _) (by omega), Option.bind_some, zs_i_n _ _ _ _ _ (by decide), x1] at e8'
    exact fin (D p) x3 e7' e8'
  · rw [if_neg hb, if_pos (by decide)] at e7'
    rw [if_neg hb, if_pos rfl] at e8'
    exact fin 0 (by decide) e7' e8'
/-- the lesser one of the odds -/
def zlk2 (n : Nat) (G D : Nat → Nat) (m c : Nat) : Nat := min (zodd n D (m &&& zbs (fun p => (G p).testBit c) n)) (zodd n D m - zodd n D (m &&& zbs (fun p => (G p).testBit c) n))
theorem q_look (hN : JNx s n G M H D c0 c1) (hK : JK s n G M H c0 c1 A B) (hY : JY s) (a : Int32) : QR (f_X7_look a) (f_X8_look a) s n G M H c0 c1 A B := by
  have hn := hN.1.1
  have h128 := pow_128 hn
  have hD : ∀ p, p < n → D p < 10 := fun p hp => (hN.2.1 p hp).2.2.2.1.2.2
  rcases blot2 hN hY a with ⟨h1, h2, -⟩ | ⟨h1, -, ⟨r, hr, h2, h3⟩ | ⟨m, hm, h2, h3, h4⟩⟩
  · refine QR.no hK (-2) ?_ ?_
    · rw [f_X7_look, h1, zbd_some, if_neg (fun z => z rfl)]
    · rw [f_X8_look, zb_eq, h2, zbd_some, if_neg (by decide)]
  · refine QR.no hK r ?_ ?_
    · rw [f_X7_look, h1, zbd_some, if_pos (by decide), h2, zbd_some, if_neg (Int32.not_le.mpr hr)]
    · rw [f_X8_look, zb_eq, h3, zbd_some, if_neg (fun z => by rw [z] at hr; exact absurd hr (by decide))]
  by_cases hm0 : m = 0
  · subst hm0
    refine QR.no hK (-1) ?_ ?_
    · rw [f_X7_look, h1, zbd_some, if_pos (by decide), h2, zbd_some, if_pos (by decide), if_neg (fun z => z rfl)]
    · rw [f_X8_look, zb_eq, h3, zbd_some, if_pos rfl, h4, zbd_some, show zFU = 4999 + 1 from rfl, f_X8_look_32, if_neg (by decide), if_pos (show nI 0 = (0 : Int32) from rfl)]; rfl
  have ho := zodd_le hn hD
  have hL : ∀ c, zlk2 n G D m c < 1000 := fun c => by unfold zlk2; have := ho (m &&& zbs (fun p => (G p).testBit c) n); omega
  have hink : ∀ c, zbs (fun p => (G p).testBit c) n < 128 := fun c => by have := zbs_lt (fun p => (G p).testBit c) n; omega
  have hand : ∀ k, m &&& k < 128 := fun k => Nat.lt_of_le_of_lt Nat.and_le_left (by omega)
  have hsub : ∀ c, zodd n D (m &&& zbs (fun p => (G p).testBit c) n) ≤ zodd n D m := fun c => by have := zodd_split hn D m (zbs (fun p => (G p).testBit c) n); omega
  refine QR.no hK (oI (zfd (fun c b => zbl (zlk2 n G D m) c b) 9 0 none)) ?_ ?_
  · have K := loop_fold (fun q c b => f_X7_look_50 q (nI m) (nI (zodd n D m)) (oI b) (zmo (zlk2 n G D m) b) (nI c) s) 9 (fun c b => zbl (zlk2 n G D m) c b) (fun b => some (oI b, s)) (fun _ _ => True) (fun q c b hc _ => by
      refine ⟨?_, trivial⟩
      show f_X7_look_50 (q + 1) (nI m) (nI (zodd n D m)) (oI b) (zmo (zlk2 n G D m) b) (nI c) s = f_X7_look_50 q (nI m) (nI (zodd n D m)) (oI (zbl (zlk2 n G D m) c b)) (zmo (zlk2 n G D m) (zbl (zlk2 n G D m) c b)) (nI (c + 1)) s
      have ew : f_X5_withSignsSo_3 (nI (2 ^ c)) 0 s = some (nI (zbs (fun p => (G p).testBit c) n), s) := by
        have := wss7 hN (a := 2 ^ c) (b := 0) (by
          have : 2 ^ c < 2 ^ 9 := Nat.pow_lt_pow_right (by decide) hc
          omega) (by decide)
        rw [show nI 0 = (0 : Int32) from rfl] at this
        rw [this]
        congr 3
        refine zbs_congr n (fun p _ => ?_)
        have h := and_or1 (G p) 0 c
        rw [Nat.zero_or] at h
        by_cases hb : (G p).testBit c = true
        · rw [hb]; exact decide_eq_true ⟨h.mpr ⟨Nat.and_zero _, hb⟩, Nat.and_zero _⟩
        · simp only [Bool.not_eq_true] at hb
          rw [hb]; exact decide_eq_false (fun z => by have := (h.mp z.1).2; rw [hb] at this; cases this)
      have h63 := ho m
      rw [f_X7_look_50, if_neg (nI_ge hc (by omega)), one_shl c (by omega), ew, zbd_some, nI_and, odd7 hN (by have := hand (zbs (fun p => (G p).testBit c) n); omega), zbd_some, pk_sub (hsub c), min7 (by have := hsub c; omega) (by omega), zbd_some]
      have hz := zmo_lt hL c b
      show (if nI (zlk2 n G D m c) ≤ zmo (zlk2 n G D m) b then f_X7_look_106 (f_X7_look_50 q) (nI m) (nI (zodd n D m)) (oI b) (zmo (zlk2 n G D m) b) (nI c) s else f_X7_look_106 (f_X7_look_50 q) (nI m) (nI (zodd n D m)) (nI c) (nI (zlk2 n G D m c)) (nI c) s) = _
      by_cases hc2 : nI (zlk2 n G D m c) ≤ zmo (zlk2 n G D m) b
      · rw [if_pos hc2, hz.1 hc2, f_X7_look_106, zb_eq, nI_1]
      · rw [if_neg hc2, hz.2 hc2, f_X7_look_106, zb_eq, nI_1]; rfl) (fun q b _ => by
      show f_X7_look_50 (q + 1) (nI m) (nI (zodd n D m)) (oI b) (zmo (zlk2 n G D m) b) (nI 9) s = _
      rw [f_X7_look_50, if_pos (nI_le (Nat.le_refl _) (by decide))]) 9 0 zFU none (by decide) (by decide) trivial
    have K1 : f_X7_look_50 zFU (nI m) (nI (zodd n D m)) (-1) (-1) 0 s = some (oI (zfd (fun c b => zbl (zlk2 n G D m) c b) 9 0 none), s) := K.1
    rw [f_X7_look, h1, zbd_some, if_pos (by decide), h2, zbd_some, if_pos (nI_pos' (by omega)), if_pos (nI_ne0 (by omega) (by omega)), odd7 hN (by omega), zbd_some, K1]
  · have e3 : zr_i (zs_i s 76 0 0) 77 (1 : Int32) = some (nI n) := by rw [r77_1, hN.th.1.2.1]
    have inner : ∀ (kb : Int32 → Int32 → Int32 → Int32 → zS → Option (Int32 × zS)) (v4 v5 : Int32) (c : Nat), c < 9 → f_X8_look_49 kb zFU (nI m) v4 v5 (nI c) 0 0 (zs_i s 76 0 0) = f_X8_look_134 kb (nI m) v4 v5 (nI c) (nI (zlk2 n G D m c)) (zs_i s 76 0 0) := by
      intro kb v4 v5 c hc
      obtain ⟨q', u, g1, -⟩ := zlp (fun q i (_ : Unit) => f_X8_look_49 kb q (nI m) v4 v5 (nI c) (nI (zbs (fun p => (G p).testBit c) i)) (nI i) (zs_i s 76 0 0)) n (fun _ _ => True) (fun q i _ hi _ => by
        refine ⟨(), ?_, trivial⟩
        show f_X8_look_49 kb (q + 1) (nI m) v4 v5 (nI c) (nI (zbs (fun p => (G p).testBit c) i)) (nI i) (zs_i s 76 0 0) = f_X8_look_49 kb q (nI m) v4 v5 (nI c) (nI (zbs (fun p => (G p).testBit c) (i + 1))) (nI (i + 1)) (zs_i s 76 0 0)
        have hl := zbs_lt (fun p => (G p).testBit c) i
        have h7 : 2 ^ i ≤ 2 ^ 7 := Nat.pow_le_pow_right (by decide) (by omega)
        obtain ⟨⟨u1, -, u3⟩, -⟩ := hN.th.2.1 i hi
        rw [f_X8_look_49, e3, Option.bind_some, if_neg (nI_ge hi (by omega)), rd_77 _ (29 + i) (nI_add _ _) (by omega), Option.bind_some, u1, in_ok _ (by omega) (by omega), zbd_some, zbs]
        by_cases hb : (G i).testBit c = true
        · rw [if_pos hb, if_pos hb, if_neg (by decide), one_shl i (by omega), f_X8_look_89, zb_eq, zb_eq, or_bit i (by omega) _ (by omega) hl, nI_1]
        · rw [if_neg hb, if_neg hb, if_pos rfl, f_X8_look_89, zb_eq, zb_eq, or_zero, nI_1]) n 0 zFU () (by omega) (by show n < 5000; omega) trivial
      have g1' : f_X8_look_49 kb zFU (nI m) v4 v5 (nI c) 0 0 (zs_i s 76 0 0) = f_X8_look_49 kb (q' + 1) (nI m) v4 v5 (nI c) (nI (zbs (fun p => (G p).testBit c) n)) (nI n) (zs_i s 76 0 0) := g1
      have hsp := zodd_split hn D m (zbs (fun p => (G p).testBit c) n)
      have h63 := ho m
      rw [g1', f_X8_look_49, e3, Option.bind_some, if_pos (nI_le (Nat.le_refl _) (by omega)), nI_and, odd8 hN.th (by have := hand (zbs (fun p => (G p).testBit c) n); omega), zbd_some, and_not (by omega), odd8 hN.th (by have := hand (127 ^^^ zbs (fun p => (G p).testBit c) n); omega), zbd_some]
      unfold zlk2
      by_cases hle : zodd n D (m &&& (127 ^^^ zbs (fun p => (G p).testBit c) n)) ≤ zodd n D (m &&& zbs (fun p => (G p).testBit c) n)
      · rw [if_pos (nI_le hle (by omega))]
        congr 2
        omega
      · rw [if_neg (nI_ge (by omega) (by omega))]
        congr 2
        omega
    have K := loop_fold (fun q c b => f_X8_look_32 q (nI m) (oI b) (zmo (zlk2 n G D m) b) (nI c) (zs_i s 76 0 0)) 9 (fun c b => zbl (zlk2 n G D m) c b) (fun b => some (oI b, zs_i s 76 0 0)) (fun _ _ => True) (fun q c b hc _ => by
      refine ⟨?_, trivial⟩
      show f_X8_look_32 (q + 1) (nI m) (oI b) (zmo (zlk2 n G D m) b) (nI c) (zs_i s 76 0 0) = f_X8_look_32 q (nI m) (oI (zbl (zlk2 n G D m) c b)) (zmo (zlk2 n G D m) (zbl (zlk2 n G D m) c b)) (nI (c + 1)) (zs_i s 76 0 0)
      have hz := zmo_lt hL c b
      rw [f_X8_look_32, if_neg (nI_ge hc (by omega)), if_neg (nI_ne0 (by omega) (by omega)), inner _ _ _ c hc, f_X8_look_134]
      by_cases hc2 : nI (zlk2 n G D m c) ≤ zmo (zlk2 n G D m) b
      · rw [if_neg (Int32.not_lt.mpr hc2), hz.1 hc2, f_X8_look_154, zb_eq, nI_1]
      · rw [if_pos (Int32.not_le.mp hc2), hz.2 hc2, f_X8_look_154, zb_eq, nI_1]; rfl) (fun q b _ => by
      show f_X8_look_32 (q + 1) (nI m) (oI b) (zmo (zlk2 n G D m) b) (nI 9) (zs_i s 76 0 0) = _
      rw [f_X8_look_32, if_pos (nI_le (Nat.le_refl _) (by decide))]; rfl) 9 0 zFU none (by decide) (by decide) trivial
    have K1 : f_X8_look_32 zFU (nI m) (-1) (-1) 0 (zs_i s 76 0 0) = some (oI (zfd (fun c b => zbl (zlk2 n G D m) c b) 9 0 none), zs_i s 76 0 0) := K.1
    rw [f_X8_look, zb_eq, h3, zbd_some, if_pos rfl, h4, zbd_some, K1]
end BLOTS2
