theorem zsg_zsg (M : Nat → Nat) (p a b : Nat) : zsg (zsg M p a) p b = zsg M p b := by
  funext j
  unfold zsg
  by_cases e : j = p
  · rw [if_pos e, if_pos e]
  · rw [if_neg e, if_neg e, if_neg e]
theorem zsg_self (M : Nat → Nat) (p : Nat) : zsg M p (M p) = M := by
  funext j
  unfold zsg
  by_cases e : j = p
  · rw [if_pos e, e]
  · rw [if_neg e]
/-- marks by which a pairing holds -/
def zmk (n : Nat) (G M : Nat → Nat) (c0 c1 : List Nat) (W : Nat → Option Nat) (p : Nat) : Nat → Nat
  | 0 => 0
  | i + 1 => if zhd n G (zsg M p i) c0 c1 (2 ^ n - 1) W then zmk n G M c0 c1 W p i + 2 ^ i else zmk n G M c0 c1 W p i
theorem zmk_lt {n : Nat} {G M : Nat → Nat} {c0 c1 : List Nat} {W : Nat → Option Nat} {p : Nat} : ∀ i, zmk n G M c0 c1 W p i < 2 ^ i := by
  intro i
  induction i with
  | zero => exact Nat.one_pos
  | succ i ih =>
    unfold zmk
    rw [Nat.pow_succ]
    split <;> omega
theorem zmk_s {n : Nat} {G M : Nat → Nat} {c0 c1 : List Nat} {W : Nat → Option Nat} {p : Nat} (i : Nat) : zmk n G M c0 c1 W p (i + 1) = if zhd n G (zsg M p i) c0 c1 (2 ^ n - 1) W then zmk n G M c0 c1 W p i + 2 ^ i else zmk n G M c0 c1 W p i := rfl
section MARKS
variable {n u : Nat} {G M H D A B : Nat → Nat} {c0 c1 : List Nat} {s a b : zS} {W : Nat → Option Nat}
theorem everyK (hZ : ZK s n G M c0 c1) : f_X5_everybody_3 s = some (nI (2 ^ n - 1), s) := by
  have hn := hZ.1
  rw [f_X5_everybody_3, hZ.2.1, one_shl n (by omega)]
  exact congrArg (fun x => some (x, s)) (pk_sub (b := 1) (Nat.one_le_two_pow))
theorem everyM (hZ : ZM s n G M c0 c1) : f_X8_everybody s = some (nI (2 ^ n - 1), s) := by
  have hn := hZ.1
  rw [f_X8_everybody, r77_1 s, Option.bind_some, hZ.2.1, one_shl n (by omega)]
  exact congrArg (fun x => some (x, s)) (pk_sub (b := 1) (Nat.one_le_two_pow))
theorem all_lt (hn : n ≤ 7) : 2 ^ n - 1 < 1024 := by
  have h7 : 2 ^ n ≤ 2 ^ 7 := Nat.pow_le_pow_right (by decide) hn
  omega
theorem ws_of (hv : zvv n W) {r : Nat → Int32} (h : ∀ p, p < n → r p = oI (W p)) : zWS n (2 ^ n - 1) W r := fun p hp _ => ⟨h p hp, fun q hq => ⟨(hv p q hp hq).1, (hv p q hp hq).2.1⟩⟩
theorem marks7 {p : Nat} (hK : JK s n G M H c0 c1 A B) (hp : p < n) (hW : ∀ q, q < n → s.1 63 q = oI (W q)) (hv : zvv n W) (hab : AB A B 11) : ∃ s' B2, f_X7_marksBy_62 zFU (nI p) (nI (M p)) 0 0 s = some (nI (zmk n G M c0 c1 W p 10), s') ∧ JK s' n G M H c0 c1 A B2 ∧ zk_k (5 :: 11 :: BC) s s' ∧ AG A B A B2 11 := by
  have hn := hK.1.1.1.1
  have hMp : M p < 10 := (hK.1.1.1.2.2.1 p hp).2.2
  obtain ⟨q', t, g1, mm, B1, g2, g3, g4, g5⟩ := zlp (fun q i t => f_X7_marksBy_62 q (nI p) (nI (M p)) (nI (zmk n G M c0 c1 W p i)) (nI i) t) 10 (fun i t => ∃ mm B1, mm < 10 ∧ JK t n G (zsg M p mm) H c0 c1 A B1 ∧ zk_k (5 :: 11 :: BC) s t ∧ AG A B A B1 i)
    (fun q i t hi h => by
      obtain ⟨mm, B1, h1, h2, h3, h4⟩ := h
      have hb := (hab p (by omega)).2
      have h4p := h4 p
      obtain ⟨s3, B3, a1, a2, a3, a4, a5, a6, a7⟩ := setmark7 h2 (p := p) (by omega) (nI i) (M2 := zsg M p i) (Or.inl ⟨hp, i, rfl, hi, (zsg_zsg _ _ _ _).symm⟩) (by omega)
      obtain ⟨s4, b1, b2, b3, b4, b5⟩ := learnK a2
      have e63 : s4.1 63 = s.1 63 := by rw [(b4 63 (by decide)).1, (a3 63 (by decide)).1, (h3 63 (by decide)).1]
      have hh := hold7 (v := 63) zd_63 zn_63 b2.1.1.1 b3 (all_lt hn) (ws_of hv (r := s4.1 63) (fun q hq => by rw [e63]; exact hW q hq))
      have k4 : zk_k (5 :: 11 :: BC) s s4 := (h3.tr (a3.mono (by decide))).tr (b4.mono (by decide))
      have ag : AG A B A B3 (i + 1) := fun j => by
        have := h4 j
        by_cases e : j = p
        · subst e; omega
        · have := (a5 j e).2; omega
      show ∃ a', f_X7_marksBy_62 (q + 1) (nI p) (nI (M p)) (nI (zmk n G M c0 c1 W p i)) (nI i) t = f_X7_marksBy_62 q (nI p) (nI (M p)) (nI (zmk n G M c0 c1 W p (i + 1))) (nI (i + 1)) a' ∧ _
      have hlt := zmk_lt (n := n) (G := G) (M := M) (c0 := c0) (c1 := c1) (W := W) (p := p) i
      have h10 : 2 ^ i ≤ 2 ^ 9 := Nat.pow_le_pow_right (by decide) (by omega)
      refine ⟨s4, ?_, i, B3, hi, b2, k4, ag⟩
      rw [f_X7_marksBy_62, if_neg (nI_ge hi (by omega)), a1, zbd_some, b1, zbd_some, everyK b2.1.1.1, zbd_some, hh, zbd_some]
      rw [zmk_s]
      by_cases e : zhd n G (zsg M p i) c0 c1 (2 ^ n - 1) W = true
      · rw [if_pos e, if_pos e, if_neg (by decide), one_shl i hi, or_bit i hi _ (by omega) hlt, zb_eq, f_X7_marksBy_119, zb_eq, nI_1]
      · rw [if_neg e, if_neg e, if_pos rfl, f_X7_marksBy_119, zb_eq, nI_1]) 10 0 zFU s (by decide) (by decide) ⟨M p, B, hMp, by rw [zsg_self]; exact hK, zk_k.rf, AG.rf⟩
  have g1' : f_X7_marksBy_62 zFU (nI p) (nI (M p)) 0 0 s = f_X7_marksBy_62 (q' + 1) (nI p) (nI (M p)) (nI (zmk n G M c0 c1 W p 10)) (nI 10) t := g1
  have hb := (hab p (by omega)).2
  have h4p := g5 p
  obtain ⟨s3, B3, a1, a2, a3, a4, a5, a6, a7⟩ := setmark7 g3 (p := p) (by omega) (nI (M p)) (M2 := M) (Or.inl ⟨hp, M p, rfl, hMp, by rw [zsg_zsg, zsg_self]⟩) (by omega)
  refine ⟨s3, B3, ?_, a2, g4.tr (a3.mono (by decide)), fun j => ?_⟩
  · rw [g1', f_X7_marksBy_62, if_pos (nI_le (Nat.le_refl _) (by decide)), a1, zbd_some]
  · have := g5 j
    by_cases e : j = p
    · subst e; omega
    · have := (a5 j e).2; omega
theorem copy91 {t0 p : Nat} {x : Int32} {X : Nat → Int64} (ht : t0 < 4) (hZ : ZM s n G M c0 c1) (hX : ∀ j, j < n → s.2 99 (40 * t0 + j) = X j) : ∃ s', f_X8_marksOf_20 zFU (nI t0) (nI p) x 0 0 s = f_X8_marksOf_60 zFU (nI p) x 0 0 s' ∧ zk_k [91] s s' ∧ ∀ q, q < n → s'.1 91 q = (X q).toInt32 := by
  have hn := hZ.1
  obtain ⟨q', t, g1, g2, g3⟩ := zlp (fun q i t => f_X8_marksOf_20 q (nI t0) (nI p) x 0 (nI i) t) n (fun i t => zk_k [91] s t ∧ ∀ q, q < i → t.1 91 q = (X q).toInt32)
    (fun q i t hi h => by
      show ∃ a', f_X8_marksOf_20 (q + 1) (nI t0) (nI p) x 0 (nI i) t = f_X8_marksOf_20 q (nI t0) (nI p) x 0 (nI (i + 1)) a' ∧ _
      rw [f_X8_marksOf_20, r77_1, Option.bind_some, (h.1 77 (by decide)).1, hZ.2.1, if_neg (nI_ge hi (by omega)), rd_99 t (40 * t0 + i) (by rw [pk_mul, nI_add]) (by omega), Option.bind_some, (h.1 99 (by decide)).2, hX i hi, wr_91 t i rfl (by omega), Option.bind_some, zb_eq, nI_1]
      refine ⟨_, rfl, h.1.i (by simp), fun v hv => ?_⟩
      by_cases e : v = i
      · subst e; rw [zs_i_v]
      · rw [zs_i_o _ _ _ _ _ e]; exact h.2 v (by omega)) n 0 zFU s (by omega) (by show n < 5000; omega) ⟨zk_k.rf, fun q hq => by omega⟩
  have g1' : f_X8_marksOf_20 zFU (nI t0) (nI p) x 0 0 s = f_X8_marksOf_20 (q' + 1) (nI t0) (nI p) x 0 (nI n) t := g1
  rw [g1', f_X8_marksOf_20, r77_1, Option.bind_some, (g2 77 (by decide)).1, hZ.2.1, if_pos (nI_le (Nat.le_refl _) (by omega))]
  exact ⟨t, rfl, g2, g3⟩
/-- a mark of the reference -/
theorem ZM.mk {p m m2 : Nat} (hZ : ZM s n G (zsg M p m) c0 c1) (hp : p < n) (h2 : m2 < 10) : ZM (zs_i s 77 (36 + p) (nI m2)) n G (zsg M p m2) c0 c1 := by
  have hn := hZ.1
  refine hZ.set (fun j hj => zs_i_o _ _ _ _ _ (by omega)) (fun q hq => ?_)
  obtain ⟨z1, z2⟩ := hZ.2.2.1 q hq
  rw [zs_i_o _ _ _ _ _ (show 29 + q ≠ 36 + p by omega)]
  refine ⟨z1, ?_⟩
  unfold zsg at z2 ⊢
  by_cases e : q = p
  · subst e; rw [zs_i_v, if_pos rfl]; exact ⟨rfl, h2⟩
  · rw [zs_i_o _ _ _ _ _ (by omega)]
    rw [if_neg e] at z2 ⊢
    exact z2
theorem marks8 {p : Nat} (hZ : ZM s n G M c0 c1) (hC : ZC8 s n G) (hp : p < n) (hW : ∀ q, q < n → s.1 91 q = oI (W q)) (hv : zvv n W) : ∃ s', f_X8_marksOf_60 zFU (nI p) (nI (M p)) 0 0 s = some (nI (zmk n G M c0 c1 W p 10), s') ∧ s'.1 77 = s.1 77 ∧ ZC8 s' n G ∧ zk_m [77, 85, 86, 88, 89] s s' := by
  have hn := hZ.1
  obtain ⟨⟨-, -⟩, hMv, hMp⟩ := hZ.2.2.1 p hp
  obtain ⟨q', t, g1, mm, g2, g3, g4, g5, g6⟩ := zlp (fun q i t => f_X8_marksOf_60 q (nI p) (nI (M p)) (nI (zmk n G M c0 c1 W p i)) (nI i) t) 10 (fun i t => ∃ mm, mm < 10 ∧ ZM t n G (zsg M p mm) c0 c1 ∧ ZC8 t n G ∧ zk_m [77, 85, 86, 88, 89] s t ∧ ∀ j, j ≠ 36 + p → t.1 77 j = s.1 77 j)
    (fun q i t hi h => by
      obtain ⟨mm, h1, h2, h3, h4, h5⟩ := h
      have z1 := h2.mk hp (m2 := i) hi
      have kw : zk_m [77, 85, 86, 88, 89] t (zs_i t 77 (36 + p) (nI i)) := zk_m.rf.i (by simp) (by decide)
      have c1' : ZC8 (zs_i t 77 (36 + p) (nI i)) n G := fun a b ha hb => h3 a b ha hb
      obtain ⟨s5, a1, a2, a3, a4⟩ := laysL8 z1 c1'
      have e77 : s5.1 77 = (zs_i t 77 (36 + p) (nI i)).1 77 := (a4.1 77 (by decide)).1
      have z5 : ZM s5 n G (zsg M p i) c0 c1 := z1.keep a4.1 (by decide)
      have e91 : s5.1 91 = s.1 91 := by rw [(a4.1 91 (by decide)).1, zs_i_n _ _ _ _ _ (by decide), (h4.1 91 (by decide)).1]
      have hh := hold8 z5 a2 a3 (all_lt hn) (ws_of hv (r := s5.1 91) (fun q hq => by rw [e91]; exact hW q hq))
      show ∃ a', f_X8_marksOf_60 (q + 1) (nI p) (nI (M p)) (nI (zmk n G M c0 c1 W p i)) (nI i) t = f_X8_marksOf_60 q (nI p) (nI (M p)) (nI (zmk n G M c0 c1 W p (i + 1))) (nI (i + 1)) a' ∧ _
      have hlt := zmk_lt (n := n) (G := G) (M := M) (c0 := c0) (c1 := c1) (W := W) (p := p) i
      have h10 : 2 ^ i ≤ 2 ^ 9 := Nat.pow_le_pow_right (by decide) (by omega)
      refine ⟨s5, ?_, i, hi, z5, fun a b ha hb => by rw [(a4.1 87 (by decide)).1]; exact c1' a b ha hb, (h4.tr kw).tr (a4.mono (by decide)), fun j hj => by rw [e77, zs_i_o _ _ _ _ _ hj]; exact h5 j hj⟩
      rw [f_X8_marksOf_60, if_neg (nI_ge hi (by omega)), wr_77 t (36 + p) (nI_add _ _) (by omega), Option.bind_some, a1, zbd_some, everyM z5, zbd_some, hh, zbd_some]
      rw [zmk_s]
      by_cases e : zhd n G (zsg M p i) c0 c1 (2 ^ n - 1) W = true
      · rw [if_pos e, if_pos e, if_neg (by decide), one_shl i hi, f_X8_marksOf_103, or_bit i hi _ (by omega) hlt, zb_eq, zb_eq, nI_1]
      · rw [if_neg e, if_neg e, if_pos rfl, f_X8_marksOf_103, or_zero, zb_eq, zb_eq, nI_1]) 10 0 zFU s (by decide) (by decide) ⟨M p, hMp, by rw [zsg_self]; exact hZ, hC, zk_m.rf, fun _ _ => rfl⟩
  have g1' : f_X8_marksOf_60 zFU (nI p) (nI (M p)) 0 0 s = f_X8_marksOf_60 (q' + 1) (nI p) (nI (M p)) (nI (zmk n G M c0 c1 W p 10)) (nI 10) t := g1
  refine ⟨zs_i t 77 (36 + p) (nI (M p)), ?_, ?_, fun a b ha hb => g4 a b ha hb, g5.i (by simp) (by decide)⟩
  · rw [g1', f_X8_marksOf_60, if_pos (nI_le (Nat.le_refl _) (by decide)), wr_77 t (36 + p) (nI_add _ _) (by omega), Option.bind_some]
  · funext j
    by_cases e : j = 36 + p
    · subst e; rw [zs_i_v, hMv]
    · rw [zs_i_o _ _ _ _ _ e]; exact g6 j e
/-- marks of a set by which one would like another -/
def zwb (G M : Nat → Nat) (c1 : List Nat) (m p q : Nat) : Nat → Nat
  | 0 => 0
  | i + 1 => if m.testBit i = true ∧ ¬ zlk G (zsg M p i) c1 p q ≤ 0 then zwb G M c1 m p q i + 1 else zwb G M c1 m p q i
theorem zwb_s (G M : Nat → Nat) (c1 : List Nat) (m p q i : Nat) : zwb G M c1 m p q (i + 1) = if m.testBit i = true ∧ ¬ zlk G (zsg M p i) c1 p q ≤ 0 then zwb G M c1 m p q i + 1 else zwb G M c1 m p q i := rfl
theorem would7 {p q m : Nat} (hK : JK s n G M H c0 c1 A B) (hp : p < n) (hq : q < n) (hpq : p ≠ q) (hm : m < 1024) (hab : AB A B 11) : ∃ s' B2, f_X7_marksByWhichWould (nI m) (nI p) (nI q) s = some (nI (zwb G M c1 m p q 10), s') ∧ JK s' n G M H c0 c1 A B2 ∧ zk_k (5 :: 11 :: RC) s s' ∧ AG A B A B2 11 := by
  have hn := hK.1.1.1.1
  obtain ⟨hMv, hMp⟩ := (hK.1.1.1.2.2.1 p hp).2
  obtain ⟨q', t, g1, mm, B1, g2, g3, g4, g5⟩ := zlp (fun f i t => f_X7_marksByWhichWould_17 f (nI m) (nI p) (nI q) (nI (M p)) (nI (zwb G M c1 m p q i)) (nI i) t) 10 (fun i t => ∃ mm B1, mm < 10 ∧ JK t n G (zsg M p mm) H c0 c1 A B1 ∧ zk_k (5 :: 11 :: RC) s t ∧ AG A B A B1 i)
    (fun f i t hi h => by
      obtain ⟨mm, B1, h1, h2, h3, h4⟩ := h
      show ∃ a', f_X7_marksByWhichWould_17 (f + 1) (nI m) (nI p) (nI q) (nI (M p)) (nI (zwb G M c1 m p q i)) (nI i) t = f_X7_marksByWhichWould_17 f (nI m) (nI p) (nI q) (nI (M p)) (nI (zwb G M c1 m p q (i + 1))) (nI (i + 1)) a' ∧ _
      rw [f_X7_marksByWhichWould_17, if_neg (nI_ge hi (by omega)), ush_tb hi hm]
      by_cases ht : m.testBit i = true
      · have hb := (hab p (by omega)).2
        have h4p := h4 p
        obtain ⟨s3, B3, a1, a2, a3, a4, a5, a6, a7⟩ := setmark7 h2 (p := p) (by omega) (nI i) (M2 := zsg M p i) (Or.inl ⟨hp, i, rfl, hi, (zsg_zsg _ _ _ _).symm⟩) (by omega)
        obtain ⟨s4, b1, b2, b3⟩ := lik7 a2.1 hp hq hpq
        have k4 : zk_k (5 :: 11 :: RC) s s4 := (h3.tr (a3.mono (by decide))).tr (b3.mono (by decide))
        have ag : AG A B A B3 (i + 1) := fun j => by
          have := h4 j
          by_cases e : j = p
          · subst e; omega
          · have := (a5 j e).2; omega
        refine ⟨s4, ?_, i, B3, hi, a2.r b2 b3, k4, ag⟩
        rw [if_pos ht, if_neg (fun z => z rfl), a1, zbd_some, b1, zbd_some]
        rw [zwb_s]
        by_cases e : zlk G (zsg M p i) c1 p q ≤ 0
        · rw [if_pos e, if_neg (fun z => z.2 e), f_X7_marksByWhichWould_59, zb_eq, nI_1]
        · rw [if_neg e, if_pos ⟨ht, e⟩, zb_eq, f_X7_marksByWhichWould_59, zb_eq, nI_1, nI_1]
      · refine ⟨t, ?_, mm, B1, h1, h2, h3, h4.up (by omega)⟩
        rw [if_neg ht, if_pos (by decide), f_X7_marksByWhichWould_59, zb_eq, nI_1]
        rw [zwb_s]
        rw [if_neg (fun z => ht z.1)]) 10 0 zFU s (by decide) (by decide) ⟨M p, B, hMp, by rw [zsg_self]; exact hK, zk_k.rf, AG.rf⟩
  have g1' : f_X7_marksByWhichWould_17 zFU (nI m) (nI p) (nI q) (nI (M p)) 0 0 s = f_X7_marksByWhichWould_17 (q' + 1) (nI m) (nI p) (nI q) (nI (M p)) (nI (zwb G M c1 m p q 10)) (nI 10) t := g1
  have hb := (hab p (by omega)).2
  have h4p := g5 p
  obtain ⟨s3, B3, a1, a2, a3, a4, a5, a6, a7⟩ := setmark7 g3 (p := p) (by omega) (nI (M p)) (M2 := M) (Or.inl ⟨hp, M p, rfl, hMp, by rw [zsg_zsg, zsg_self]⟩) (by omega)
  refine ⟨s3, B3, ?_, a2, g4.tr (a3.mono (by decide)), fun j => ?_⟩
  · rw [f_X7_marksByWhichWould, rd_5 s p rfl (by omega), Option.bind_some, hMv, g1', f_X7_marksByWhichWould_17, if_pos (nI_le (Nat.le_refl _) (by decide)), a1, zbd_some]
  · have := g5 j
    by_cases e : j = p
    · subst e; omega
    · have := (a5 j e).2; omega
theorem would8 {p q m : Nat} (hZ : ZM s n G M c0 c1) (hC : ZC8 s n G) (hp : p < n) (hq : q < n) (hm : m < 1024) : ∃ s', f_X8_wouldBy (nI p) (nI q) (nI m) s = some (nI (zwb G M c1 m p q 10), s') ∧ s'.1 77 = s.1 77 ∧ ZC8 s' n G ∧ zk_m [77, 85, 86] s s' := by
  have hn := hZ.1
  obtain ⟨-, hMv, hMp⟩ := hZ.2.2.1 p hp
  obtain ⟨q', t, g1, mm, g2, g3, g4, g5, g6⟩ := zlp (fun f i t => f_X8_wouldBy_17 f (nI p) (nI q) (nI m) (nI (M p)) (nI (zwb G M c1 m p q i)) (nI i) t) 10 (fun i t => ∃ mm, mm < 10 ∧ ZM t n G (zsg M p mm) c0 c1 ∧ ZC8 t n G ∧ zk_m [77, 85, 86] s t ∧ ∀ j, j ≠ 36 + p → t.1 77 j = s.1 77 j)
    (fun f i t hi h => by
      obtain ⟨mm, h1, h2, h3, h4, h5⟩ := h
      have z1 := h2.mk hp (m2 := i) hi
      have kw : zk_m [77, 85, 86] t (zs_i t 77 (36 + p) (nI i)) := zk_m.rf.i (by simp) (by decide)
      have c1' : ZC8 (zs_i t 77 (36 + p) (nI i)) n G := fun a b ha hb => h3 a b ha hb
      show ∃ a', f_X8_wouldBy_17 (f + 1) (nI p) (nI q) (nI m) (nI (M p)) (nI (zwb G M c1 m p q i)) (nI i) t = f_X8_wouldBy_17 f (nI p) (nI q) (nI m) (nI (M p)) (nI (zwb G M c1 m p q (i + 1))) (nI (i + 1)) a' ∧ _
      rw [f_X8_wouldBy_17, if_neg (nI_ge hi (by omega)), wr_77 t (36 + p) (nI_add _ _) (by omega), Option.bind_some, in_ok _ hi hm, zbd_some]
      by_cases ht : m.testBit i = true
      · obtain ⟨s5, a1, a2⟩ := lik8 z1 hp hq (c1' p q hp hq)
        have a1' : f_X8_likesBy (nI p) (nI q) (zs_i t 77 (36 + p) (nI i)) = some (zlk G (zsg M p i) c1 p q, s5) := a1
        have e77 : s5.1 77 = (zs_i t 77 (36 + p) (nI i)).1 77 := (a2 77 (by decide)).1
        have km : zk_m [77, 85, 86] (zs_i t 77 (36 + p) (nI i)) s5 := ⟨a2.mono (by decide), by rw [(a2 76 (by decide)).1], by rw [(a2 76 (by decide)).1], by rw [(a2 76 (by decide)).1], by rw [(a2 76 (by decide)).1]⟩
        refine ⟨s5, ?_, i, hi, z1.keep a2 (by decide), fun a b ha hb => by rw [(a2 87 (by decide)).1]; exact c1' a b ha hb, (h4.tr kw).tr km, fun j hj => by rw [e77, zs_i_o _ _ _ _ _ hj]; exact h5 j hj⟩
        rw [if_pos ht, if_neg (by decide), a1', zbd_some]
        rw [zwb_s]
        by_cases e : zlk G (zsg M p i) c1 p q ≤ 0
        · rw [if_pos e, if_neg (fun z => z.2 e), f_X8_wouldBy_60, f_X8_wouldBy_61, zb_eq, zb_eq, nI_1, show nI (zwb G M c1 m p q i) + (0 : Int32) = nI (zwb G M c1 m p q i + 0) from nI_add _ 0]
          rfl
        · rw [if_neg e, if_pos ⟨ht, e⟩, f_X8_wouldBy_61, zb_eq, zb_eq, nI_1, nI_1]
      · refine ⟨_, ?_, i, hi, z1, c1', h4.tr kw, fun j hj => by rw [zs_i_o _ _ _ _ _ hj]; exact h5 j hj⟩
        rw [if_neg ht, if_pos rfl, f_X8_wouldBy_60, f_X8_wouldBy_61, zb_eq, zb_eq, nI_1, show nI (zwb G M c1 m p q i) + (0 : Int32) = nI (zwb G M c1 m p q i + 0) from nI_add _ 0]
        have ez : zwb G M c1 m p q (i + 1) = zwb G M c1 m p q i := by
          show (if _ then _ else _) = _
          rw [if_neg (fun z => ht z.1)]
        rw [ez]
        rfl) 10 0 zFU s (by decide) (by decide) ⟨M p, hMp, by rw [zsg_self]; exact hZ, hC, zk_m.rf, fun _ _ => rfl⟩
  have g1' : f_X8_wouldBy_17 zFU (nI p) (nI q) (nI m) (nI (M p)) 0 0 s = f_X8_wouldBy_17 (q' + 1) (nI p) (nI q) (nI m) (nI (M p)) (nI (zwb G M c1 m p q 10)) (nI 10) t := g1
  refine ⟨zs_i t 77 (36 + p) (nI (M p)), ?_, ?_, fun a b ha hb => g4 a b ha hb, g5.i (by simp) (by decide)⟩
  · rw [f_X8_wouldBy, rd_77 s (36 + p) (nI_add _ _) (by omega), Option.bind_some, hMv, g1', f_X8_wouldBy_17, if_pos (nI_le (Nat.le_refl _) (by decide)), wr_77 t (36 + p) (nI_add _ _) (by omega), Option.bind_some]
  · funext j
    by_cases e : j = 36 + p
    · subst e; rw [zs_i_v, hMv]
    · rw [zs_i_o _ _ _ _ _ e]; exact g6 j e
end MARKS
