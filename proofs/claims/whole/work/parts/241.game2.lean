section GAME2
variable {n : Nat} {G M H D A B : Nat → Nat} {c0 c1 : List Nat} {s : zS}
theorem game2 (hN : JNx s n G M H D c0 c1) (hK : JK s n G M H c0 c1 A B) {S : Nat} (hS : S < 2 ^ n) : ∃ (s1 s2 : zS) (T : Nat → Nat), f_X4_learnTurns (nI S) s = some ((), s1) ∧ f_X8_laysGame (zs_i s1 76 0 0) = some ((), s2) ∧ (∀ j, T j ≤ 200) ∧ (∀ m, m &&& S = S → m < 2 ^ n → s1.1 52 m = nI (T m) ∧ s2.1 95 m = zge (T m)) ∧ ZFT s2 n G c0 ∧ JK s1 n G M H c0 c1 A B ∧ JNx s1 n G M H D c0 c1 ∧ zk_k CC s s1 ∧ zk_m MC s1 s2 ∧ s2.1 93 0 = s1.1 93 0 ∧ s2.1 77 = s1.1 77 := by
  obtain ⟨s1, T, a1, a2, a3, a4, a5⟩ := turns7 hK.1 hS
  have k1 : zk_k CC s s1 := a5.mono (by decide)
  have hN1 := hN.c k1
  obtain ⟨s2, U, b1, b2, b3, b4, b5⟩ := game8 hN1.th.m
  have hK1 : JK s1 n G M H c0 c1 A B := by
    obtain ⟨h1, h2, h3, h4⟩ := hK
    refine ⟨a4, h2.keep a5 (by decide), ?_, ?_⟩
    · unfold JC6 JH7
      rw [(a5 60 (by decide)).1, (a5 65 (by decide)).1]
      exact h3
    · unfold JC7
      rw [(a5 60 (by decide)).1, (a5 66 (by decide)).1]
      exact h4
  have eq : ∀ m, m &&& S = S → m < 2 ^ n → T m = U m := fun m h1 h2 => TRN.uni a2 ⟨b2.1, fun m _ hm => b2.2 m trivial hm⟩ (fun m p h => and_sub h) (2 ^ n - m) m (by omega) h1 h2
  refine ⟨s1, s2, T, a1, b1, a2.1, fun m h1 h2 => ⟨a3 m h1 h2, ?_⟩, b4, hK1, hN1, k1, zk_m.th.tr (b5.mono (by decide)), by rw [(b5.1 93 (by decide)).1, zs_i_n _ _ _ _ _ (by decide)], by rw [(b5.1 77 (by decide)).1, zs_i_n _ _ _ _ _ (by decide)]⟩
  rw [b3 m h2, eq m h1 h2]
theorem zge_neg {x : Nat} (h : x ≤ 200) : (zge x < 0) ↔ x % 2 = 0 := by
  by_cases he : x % 2 = 0
  · rw [zge_e he]; exact ⟨fun _ => he, fun _ => (zge_f x (by omega)).2.1⟩
  · rw [zge_o (by omega)]; exact ⟨fun z => absurd z (nI_pos (by omega)), fun z => absurd z he⟩
theorem q_wins (hN : JNx s n G M H D c0 c1) (hK : JK s n G M H c0 c1 A B) (a : Int32) : QR (f_X7_wins a) (f_X8_wins a) s n G M H c0 c1 A B := by
  have hn := hN.1.1
  have h128 := pow_128 hn
  rcases set_cases hN a with ⟨h1, h2, -⟩ | ⟨m, hm, rfl, h1, h2⟩
  · refine QR.no hK (-3) ?_ ?_
    · rw [f_X7_wins, h1, zbd_some, if_neg (fun z => z rfl)]
    · rw [f_X8_wins, zb_eq, h2 _ hN.th, zbd_some, if_neg (fun z => z rfl)]
  obtain ⟨s1, s2, T, a1, b1, tb, tt, hF, hK1, hN1, k1, k2, e93, e77⟩ := game2 hN hK hm
  obtain ⟨t7, t8⟩ := tt m (Nat.and_self m) hm
  have hb := tb m
  refine ⟨nI (T m % 2), s1, s2, ?_, ?_, hK1, k1, k2, e93⟩
  · rw [f_X7_wins, h1, zbd_some, if_pos (by decide), a1, zbd_some, rd_52 s1 m rfl (by omega), Option.bind_some, t7, pk_andN (by omega) 1 (by decide), show (2 : Nat) ^ 1 = 2 from rfl]
  · rw [f_X8_wins, zb_eq, h2 _ hN1.th, zbd_some, if_pos (by decide), b1, zbd_some, rd_95 s2 m rfl (by omega), Option.bind_some, t8]
    by_cases he : T m % 2 = 0
    · rw [if_pos ((zge_neg hb).mpr he), he]; rfl
    · rw [if_neg (fun z => he ((zge_neg hb).mp z)), show T m % 2 = 1 by omega]; rfl
theorem q_lasts (hN : JNx s n G M H D c0 c1) (hK : JK s n G M H c0 c1 A B) (a : Int32) : QR (f_X7_lasts a) (f_X8_lasts a) s n G M H c0 c1 A B := by
  have hn := hN.1.1
  have h128 := pow_128 hn
  rcases set_cases hN a with ⟨h1, h2, -⟩ | ⟨m, hm, rfl, h1, h2⟩
  · refine QR.no hK (-3) ?_ ?_
    · rw [f_X7_lasts, h1, zbd_some, if_neg (fun z => z rfl)]
    · rw [f_X8_lasts, zb_eq, h2 _ hN.th, zbd_some, if_neg (fun z => z rfl)]
  obtain ⟨s1, s2, T, a1, b1, tb, tt, hF, hK1, hN1, k1, k2, e93, e77⟩ := game2 hN hK hm
  obtain ⟨t7, t8⟩ := tt m (Nat.and_self m) hm
  have hb := tb m
  have r95 : zr_i s2 95 (nI m) = some (zge (T m)) := by rw [rd_95 s2 m rfl (by omega), t8]
  refine ⟨nI (T m), s1, s2, ?_, ?_, hK1, k1, k2, e93⟩
  · rw [f_X7_lasts, h1, zbd_some, if_pos (by decide), a1, zbd_some, rd_52 s1 m rfl (by omega), Option.bind_some, t7]
  · rw [f_X8_lasts, zb_eq, h2 _ hN1.th, zbd_some, if_pos (by decide), b1, zbd_some, r95, Option.bind_some]
    by_cases he : T m % 2 = 0
    · rw [if_pos ((zge_neg hb).mpr he), Option.bind_some, zge_e he, (zge_f (T m) (by omega)).2.2]; rfl
    · rw [if_neg (fun z => he ((zge_neg hb).mp z)), Option.bind_some, zge_o (by omega)]; rfl
def zbp (fit : Nat → Bool) (T : Nat → Nat) (m p : Nat) : Option Nat := if !(m.testBit p) && (fit (m ||| 2 ^ p) && decide (T (m ||| 2 ^ p) % 2 = 0)) then some p else none
theorem q_best (hN : JNx s n G M H D c0 c1) (hK : JK s n G M H c0 c1 A B) (a : Int32) : QR (f_X7_best a) (f_X8_best a) s n G M H c0 c1 A B := by
  have hn := hN.1.1
  have h128 := pow_128 hn
  rcases set_cases hN a with ⟨h1, h2, -⟩ | ⟨m, hm, rfl, h1, h2⟩
  · refine QR.no hK (-3) ?_ ?_
    · rw [f_X7_best, h1, zbd_some, if_neg (fun z => z rfl)]
    · rw [f_X8_best, zb_eq, h2 _ hN.th, zbd_some, if_neg (fun z => z rfl)]
  -- the class first: its world goes on
  obtain ⟨s1, s2, T, a1, b1, tb, tt, hF, hK1, hN1, k1, k2, e93, e77⟩ := game2 hN hK hm
  obtain ⟨s3, ⟨c1', c2'⟩, c3'⟩ := zss (fun q p u => f_X7_best_24 q (nI m) (nI p) u) 0 n (fun u => JR u n G M c0 c1 A B ∧ zk_k RC s1 u) (zbp (zfs n G c0) T m) (fun p u => some (nI p, u)) (fun u => some ((-1 : Int32), u)) (fun q p u _ hp h => by
      have hol := or_lt hm hp
      have e24 : f_X7_best_24 (q + 1) (nI m) (nI p) u = (if nI (m ||| 2 ^ p) = nI m then f_X7_best_73 (f_X7_best_24 q) (nI m) (nI p) u else zbd (f_X4_isFitting (nI (m ||| 2 ^ p)) u) fun r3 s4 => if r3 = 0 then f_X7_best_73 (f_X7_best_24 q) (nI m) (nI p) s4 else (zr_i s4 52 (nI (m ||| 2 ^ p))).bind fun x5 => if ¬ (x5 &&& (1 : Int32)) = 0 then f_X7_best_73 (f_X7_best_24 q) (nI m) (nI p) s4 else some (nI p, s4)) := by
        rw [f_X7_best_24, h.1.1.1.2.1, if_neg (nI_ge hp (by omega)), one_shl p (by omega), nI_or, zb_eq]
      cases hb : m.testBit p with
      | true =>
        rw [if_pos (by rw [or_old hb]), f_X7_best_73, zb_eq, nI_1] at e24
        exact Or.inl ⟨by unfold zbp; simp [hb], u, e24, h⟩
      | false =>
        have hlt := or_new hb
        obtain ⟨u2, d1, d2, d3⟩ := fitting7 h.1 (m := m ||| 2 ^ p) (by omega) hol
        rw [if_neg (ne_of_nI (by omega) (by omega) (by omega)), d1, zbd_some] at e24
        by_cases hf2 : zfs n G c0 (m ||| 2 ^ p) = true
        · have hbT := tb (m ||| 2 ^ p)
          rw [if_pos hf2, if_neg (by decide), rd_52 u2 (m ||| 2 ^ p) rfl (by omega), Option.bind_some, (d3 52 (by decide)).1, (h.2 52 (by decide)).1, (tt _ (and_sub (Nat.and_self m)) hol).1, pk_andN (by omega) 1 (by decide), show (2 : Nat) ^ 1 = 2 from rfl] at e24
          by_cases he : T (m ||| 2 ^ p) % 2 = 0
          · rw [he, if_neg (fun z => z rfl)] at e24
            exact Or.inr ⟨p, u2, by unfold zbp; simp [hb, hf2, he], e24, d2, h.2.tr d3⟩
          · rw [show T (m ||| 2 ^ p) % 2 = 1 by omega, if_pos (by decide), f_X7_best_73, zb_eq, nI_1] at e24
            exact Or.inl ⟨by unfold zbp; simp [he], u2, e24, d2, h.2.tr d3⟩
        · rw [if_neg hf2, if_pos rfl, f_X7_best_73, zb_eq, nI_1] at e24
          exact Or.inl ⟨by unfold zbp; simp [hf2], u2, e24, d2, h.2.tr d3⟩) (fun q u h => by
      refine ⟨u, ?_, h⟩
      show f_X7_best_24 (q + 1) (nI m) (nI n) u = _
      rw [f_X7_best_24, h.1.1.1.2.1, if_pos (nI_le (Nat.le_refl _) (by omega))]) n 0 zFU s1 (Nat.le_refl _) (by omega) (by show n < 5000; omega) ⟨hK1.1, zk_k.rf⟩
  have hN3 : JNx s3 n G M H D c0 c1 := hN1.keep c2' (by decide)
  obtain ⟨s4, U, d1, d2, d3, d4, d5⟩ := game8 hN3.th.m
  have e3 : zr_i s4 77 (1 : Int32) = some (nI n) := by rw [r77_1, (d5.1 77 (by decide)).1, zs_i_n _ _ _ _ _ (by decide), hN3.1.2.1]
  -- both tables are one
  have eq : ∀ p, p < n → m.testBit p = false → T (m ||| 2 ^ p) = U (m ||| 2 ^ p) := fun p hp hb => by
    obtain ⟨sx, Tx, x1, x2, x3, x4, x5⟩ := turns7 hK.1 hm
    have es : sx = s1 := by rw [a1] at x1; cases x1; rfl
    subst es
    have hol := or_lt hm hp
    have y1 : nI (Tx (m ||| 2 ^ p)) = nI (T (m ||| 2 ^ p)) := by rw [← x3 _ (and_sub (Nat.and_self m)) hol, (tt _ (and_sub (Nat.and_self m)) hol).1]
    have y2 := (nI_eq (by have := x2.1 (m ||| 2 ^ p); omega) (by have := tb (m ||| 2 ^ p); omega)).mp y1
    rw [← y2]
    exact TRN.uni x2 ⟨d2.1, fun m _ hm => d2.2 m trivial hm⟩ (fun m p h => and_sub h) (2 ^ n - (m ||| 2 ^ p)) (m ||| 2 ^ p) (by omega) (and_sub (Nat.and_self m)) hol
  have r8 : f_X8_best_22 zFU (nI m) 0 s4 = ((zfo (zbp (zfs n G c0) T m) n 0).map (fun p => some (nI p, s4))).getD (some ((-1 : Int32), s4)) := by
    rw [← zfo_map]
    refine zsr (fun q p => f_X8_best_22 q (nI m) (nI p) s4) 0 n _ _ (fun q p _ hp => ?_) (fun q => ?_) n 0 zFU (Nat.le_refl _) (by omega) (by show n < 5000; omega)
    · show f_X8_best_22 (q + 1) (nI m) (nI p) s4 = _
      have hol := or_lt hm hp
      unfold zbp
      rw [f_X8_best_22, e3, Option.bind_some, if_neg (nI_ge hp (by omega)), in_ok s4 (by omega) (by omega), zbd_some]
      cases hb : m.testBit p with
      | true =>
        rw [if_pos (by decide), f_X8_best_69, zb_eq, nI_1]
        simp
      | false =>
        have hlt := or_new hb
        have hbU := d2.1 (m ||| 2 ^ p)
        rw [if_neg (by decide), one_shl p (by omega), nI_or, rd_94 s4 (m ||| 2 ^ p) rfl (by omega), Option.bind_some, d4 _ (by omega) hol]
        by_cases hf2 : zfs n G c0 (m ||| 2 ^ p) = true
        · rw [if_pos hf2, if_neg (by decide), rd_95 s4 (m ||| 2 ^ p) rfl (by omega), Option.bind_some, d3 _ hol, eq p hp hb]
          by_cases he : U (m ||| 2 ^ p) % 2 = 0
          · rw [if_neg (Int32.not_le.mpr ((zge_neg hbU).mpr he))]
            simp [hf2, he]
          · rw [if_pos (Int32.not_lt.mp (fun z => he ((zge_neg hbU).mp z))), f_X8_best_69, zb_eq, nI_1]
            simp [he]
        · rw [if_neg hf2, if_pos rfl, f_X8_best_69, zb_eq, nI_1]
          simp [hf2]
    · show f_X8_best_22 (q + 1) (nI m) (nI n) s4 = _
      rw [f_X8_best_22, e3, Option.bind_some, if_pos (nI_le (Nat.le_refl _) (by omega))]
  refine ⟨((zfo (zbp (zfs n G c0) T m) n 0).map nI).getD (-1), s3, s4, ?_, ?_, hK1.r c1' c2', k1.tr (c2'.mono (by decide)), zk_m.th.tr (d5.mono (by decide)), by rw [(d5.1 93 (by decide)).1, zs_i_n _ _ _ _ _ (by decide)]⟩
  · rw [f_X7_best, h1, zbd_some, if_pos (by decide), a1, zbd_some]
    refine Eq.trans c3' ?_
    cases zfo (zbp (zfs n G c0) T m) n 0 <;> rfl
  · rw [f_X8_best, zb_eq, h2 _ hN3.th, zbd_some, if_pos (by decide), d1, zbd_some, r8]
    cases zfo (zbp (zfs n G c0) T m) n 0 <;> rfl
end GAME2
/-- a sign or a mark of the reference is set -/
theorem ZLm.set {a b : Nat → Int32} {w : Nat} {cs : List Nat} (h : ZLm a w cs) (hw : w < 2) (hb : ∀ j, (j < 22 ∨ 254 ≤ j) → b j = a j) : ZLm b w cs := by
  rcases h with ⟨h1, h2⟩ | ⟨h1, h2, F, h3, h4, h5, h6⟩
  · exact Or.inl ⟨by rw [hb _ (by omega)]; exact h1, h2⟩
  · exact Or.inr ⟨by rw [hb _ (by omega)]; exact h1, h2, F, h3, by rw [hb _ (by omega)]; exact h4, by rw [hb _ (by omega)]; exact h5, fun i hi => by rw [hb _ (by omega)]; exact h6 i hi⟩
theorem ZM.set {s t : zS} {n : Nat} {G M G2 M2 : Nat → Nat} {c0 c1 : List Nat} (h : ZM s n G M c0 c1) (hb : ∀ j, (j < 22 ∨ 254 ≤ j) → t.1 77 j = s.1 77 j) (hp : ∀ p, p < n → (t.1 77 (29 + p) = nI (G2 p) ∧ G2 p < 512) ∧ t.1 77 (36 + p) = nI (M2 p) ∧ M2 p < 10) : ZM t n G2 M2 c0 c1 :=
  ⟨h.1, by rw [hb 1 (by omega)]; exact h.2.1, hp, h.2.2.2.1.set (by decide) hb, h.2.2.2.2.set (by decide) hb⟩
/-- a sign in place of one's own -/
def zsg (G : Nat → Nat) (p g : Nat) : Nat → Nat := fun j => if j = p then g else G j
section CHANGE
variable {n : Nat} {G M H D A B : Nat → Nat} {c0 c1 : List Nat} {s : zS}
def zcf (c0 : List Nat) (o x : Nat) : Bool := zfit c0 (zfew x o) (zpc 9 x + zpc 9 o) 2
def zcd (g x : Nat) : Nat := zpc 9 (x ^^^ g)
/-- the nearest -/
def CH (c0 : List Nat) (g o : Nat) (r : Option Nat) : Prop := (r = none ∧ ∀ x, x < 512 → zcf c0 o x = false) ∨ ∃ x, r = some x ∧ x < 512 ∧ zcf c0 o x = true ∧ ∀ y, y < 512 → zcf c0 o y = true → zcd g x ≤ zcd g y ∧ (y < x → zcd g x < zcd g y)
theorem CH.uni {g o : Nat} {r r2 : Option Nat} (h1 : CH c0 g o r) (h2 : CH c0 g o r2) : r = r2 := by
  rcases h1 with ⟨h1, h1'⟩ | ⟨x, a1, a2, a3, a4⟩
  · rcases h2 with ⟨h2, -⟩ | ⟨y, b1, b2, b3, b4⟩
    · rw [h1, h2]
    · rw [h1' y b2] at b3; cases b3
  · rcases h2 with ⟨h2, h2'⟩ | ⟨y, b1, b2, b3, b4⟩
    · rw [h2' x a2] at a3; cases a3
    · have x1 := a4 y b2 b3
      have x2 := b4 x a2 a3
      rw [a1, b1]
      congr 1
      omega
theorem xor_lt {x g : Nat} (hx : x < 512) (hg : g < 512) : x ^^^ g < 512 := Nat.xor_lt_two_pow (n := 9) hx hg
theorem near7 {t : zS} (hZ : ZK t n G M c0 c1) {g o : Nat} (hg : g < 512) (ho : o < 512) : ∃ r t', f_X4_nearestFitting (nI g) (nI o) t = some (oI r, t') ∧ CH c0 g o r ∧ zk_k [46, 58, 59] t t' := by
  have inner : ∀ (kb : Int32 → Int32 → Int32 → zS → Option (Int32 × zS)) (k : Nat) (u : zS), k ≤ 9 → zk_k [46, 58, 59] t u → ∃ u', zk_k [46, 58, 59] t u' ∧ f_X4_nearestFitting_11 kb zFU (nI g) (nI o) (nI k) 0 u = ((zfo (fun x => if decide (zcd g x = k) && zcf c0 o x then some x else none) 512 0).map (fun x => some (nI x, u'))).getD (kb (nI g) (nI o) (nI (k + 1)) u') := fun kb k u hk hu => by
    refine zss (fun q x u => f_X4_nearestFitting_11 kb q (nI g) (nI o) (nI k) (nI x) u) 0 512 (fun u => zk_k [46, 58, 59] t u) (fun x => if decide (zcd g x = k) && zcf c0 o x then some x else none) (fun x u => some (nI x, u)) (fun u => kb (nI g) (nI o) (nI (k + 1)) u) (fun q x u _ hx h => ?_) (fun q u h => ?_) 512 0 zFU u (Nat.le_refl _) (by decide) (by decide) hu
    · have hd := zpc_le 9 (x ^^^ g)
      have e11 : f_X4_nearestFitting_11 kb (q + 1) (nI g) (nI o) (nI k) (nI x) u = (if ¬ nI (zcd g x) = nI k then f_X4_nearestFitting_66 kb (f_X4_nearestFitting_11 kb q) (nI g) (nI o) (nI k) (nI x) u else zbd (f_X4_learnApart 46 (0 : Int32) (nI x) (nI o) u) fun r10 s11 => zbd (f_X4_lawFits r10 (nI (zpc 9 x + zpc 9 o)) (nI 2) s11) fun r12 s13 => if r12 = 0 then f_X4_nearestFitting_66 kb (f_X4_nearestFitting_11 kb q) (nI g) (nI o) (nI k) (nI x) s13 else some (nI x, s13)) := by
        rw [f_X4_nearestFitting_11, if_neg (nI_ge hx (by decide)), nI_xor, bc_ok u (xor_lt hx hg), zbd_some, bc_ok u hx, zbd_some, bc_ok u ho, zbd_some, zb_eq, nI_add]
        rfl
      by_cases e : zcd g x = k
      · obtain ⟨u2, a1, a2, a3⟩ := ap7 (v0 := 46) (off := 0) zd_46 zn_46 (by decide) (by decide) hx ho u
        have a1' : f_X4_learnApart 46 (0 : Int32) (nI x) (nI o) u = some (nI (zfew x o), u2) := a1
        have hk2 : zk_k [46, 58, 59] t u2 := h.tr (a2.1.mono (by simp))
        have hf := zfew_le x o
        obtain ⟨u3, b1, b2⟩ := fit7 (hZ.keep hk2 (by decide)) (zfew x o) (zpc 9 x + zpc 9 o) 2 (by omega)
        have hk3 : zk_k [46, 58, 59] t u3 := hk2.tr (b2.mono (by simp))
        rw [if_neg (fun z => z (by rw [e])), a1', zbd_some, b1, zbd_some] at e11
        by_cases hc : zfit c0 (zfew x o) (zpc 9 x + zpc 9 o) 2 = true
        · rw [if_pos hc, if_neg (by decide)] at e11
          exact Or.inr ⟨x, u3, by simp [e, zcf, hc], e11, hk3⟩
        · rw [if_neg hc, if_pos rfl, f_X4_nearestFitting_66, zb_eq, nI_1] at e11
          exact Or.inl ⟨by simp [zcf, hc], u3, e11, hk3⟩
      · rw [if_pos (ne_of_nI e (by unfold zcd; omega) (by omega)), f_X4_nearestFitting_66, zb_eq, nI_1] at e11
        exact Or.inl ⟨by simp [e], u, e11, h⟩
    · refine ⟨u, ?_, h⟩
      show f_X4_nearestFitting_11 kb (q + 1) (nI g) (nI o) (nI k) (nI 512) u = _
      rw [f_X4_nearestFitting_11, if_pos (nI_le (Nat.le_refl _) (by decide)), zb_eq, nI_1]
  obtain ⟨t', g1, g2⟩ := zss (fun q k u => f_X4_nearestFitting_2 q (nI g) (nI o) (nI k) u) 0 10 (fun u => zk_k [46, 58, 59] t u) (fun k => zfo (fun x => if decide (zcd g x = k) && zcf c0 o x then some x else none) 512 0) (fun x u => some (nI x, u)) (fun u => some ((-1 : Int32), u)) (fun q k u _ hk h => by
      obtain ⟨u', b1, b2⟩ := inner (f_X4_nearestFitting_2 q) k u (by omega) h
      have e2 : f_X4_nearestFitting_2 (q + 1) (nI g) (nI o) (nI k) u = f_X4_nearestFitting_11 (f_X4_nearestFitting_2 q) zFU (nI g) (nI o) (nI k) 0 u := by
        rw [f_X4_nearestFitting_2, if_neg (nI_nlt (by omega) (by omega))]
      cases hz : zfo (fun x => if decide (zcd g x = k) && zcf c0 o x then some x else none) 512 0 with
      | none => rw [hz] at b2; exact Or.inl ⟨rfl, u', e2.trans b2, b1⟩
      | some a => rw [hz] at b2; exact Or.inr ⟨a, u', rfl, e2.trans b2, b1⟩) (fun q u h => by
      refine ⟨u, ?_, h⟩
      show f_X4_nearestFitting_2 (q + 1) (nI g) (nI o) (nI 10) u = _
      rw [f_X4_nearestFitting_2, if_pos (by decide)]) 10 0 zFU t (Nat.le_refl _) (by decide) (by decide) zk_k.rf
  refine ⟨zfo (fun k => zfo (fun x => if decide (zcd g x = k) && zcf c0 o x then some x else none) 512 0) 10 0, t', ?_, ?_, g1⟩
  · rw [f_X4_nearestFitting]
    refine Eq.trans g2 ?_
    cases zfo (fun k => zfo (fun x => if decide (zcd g x = k) && zcf c0 o x then some x else none) 512 0) 10 0 <;> rfl
  · cases hz : zfo (fun k => zfo (fun x => if decide (zcd g x = k) && zcf c0 o x then some x else none) 512 0) 10 0 with
    | none =>
      refine Or.inl ⟨rfl, fun x hx => ?_⟩
      have hd := zpc_le 9 (x ^^^ g)
      have h1 := (zfo_none _ _).mp ((zfo_none _ _).mp hz (zcd g x) (Nat.zero_le _) (by unfold zcd; omega)) x (Nat.zero_le _) (by omega)
      cases hc : zcf c0 o x with
      | false => rfl
      | true => rw [if_pos (by simp [hc])] at h1; cases h1
    | some a =>
      obtain ⟨k, k1, k2, k3, k4⟩ := zfo_some _ _ hz
      obtain ⟨x, x1, x2, x3, x4⟩ := zfo_some _ _ k3
      have ex : (zcd g x = k ∧ zcf c0 o x = true) ∧ x = a := by
        by_cases hc : (decide (zcd g x = k) && zcf c0 o x) = true
        · rw [if_pos hc] at x3
          simp only [Bool.and_eq_true, decide_eq_true_eq] at hc
          exact ⟨hc, by cases x3; rfl⟩
        · rw [if_neg hc] at x3; cases x3
      obtain ⟨⟨e1, e2⟩, rfl⟩ := ex
      refine Or.inr ⟨x, rfl, by omega, e2, fun y hy hcy => ?_⟩
      have hle : k ≤ zcd g y := by
        refine Nat.le_of_not_lt (fun hlt => ?_)
        have h1 := (zfo_none _ _).mp (k4 (zcd g y) (Nat.zero_le _) hlt) y (Nat.zero_le _) (by omega)
        rw [if_pos (by simp [hcy])] at h1
        cases h1
      refine ⟨by omega, fun hyx => ?_⟩
      have h1 := x4 y (Nat.zero_le _) hyx
      by_cases e : zcd g y = k
      · rw [if_pos (by simp [e, hcy])] at h1; cases h1
      · omega
end CHANGE
