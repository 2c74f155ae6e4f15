/-- a deed, of kind k -/
def zdo (n : Nat) (c0 c1 : List Nat) (k a b : Nat) (st : (Nat → Nat) × (Nat → Nat) × (Nat → Option Nat)) : Nat × (Nat → Nat) × (Nat → Nat) × (Nat → Option Nat) :=
  if k = 0 then (if a < n ∧ b < n ∧ a ≠ b then (if zwe st.1 st.2.1 c0 c1 st.2.2 a b = 0 then (0, st.1, st.2.1, zen st.2.2 a b) else (zwe st.1 st.2.1 c0 c1 st.2.2 a b, st)) else (1, st))
  else if k = 1 then (if b < n then (if st.2.2 b = none then (2, st) else (0, st.1, st.2.1, zlv st.2.2 b)) else (1, st))
  else if k = 2 then (if a < n ∧ b < 9 then (0, zsg st.1 a (st.1 a ^^^ 2 ^ b), st.2) else (1, st))
  else if k = 3 then (if a < n ∧ b < 10 then (0, st.1, zsg st.2.1 a b, st.2.2) else (1, st))
  else (1, st)
def DC : List Nat := [4, 5, 8, 10, 11, 72, 42, 43, 44, 45, 46, 47, 48, 49, 50, 51, 52, 53, 54, 55, 56, 57, 58, 59, 60, 61, 62, 63, 64, 65, 66, 67]
def CSt (s : zS) (n : Nat) (st : (Nat → Nat) × (Nat → Nat) × (Nat → Option Nat)) (H : Nat → Nat) (c0 c1 : List Nat) (A B : Nat → Nat) : Prop := JK s n st.1 st.2.1 H c0 c1 A B ∧ KW s n st.2.2
def RSt (s : zS) (n : Nat) (st : (Nat → Nat) × (Nat → Nat) × (Nat → Option Nat)) (c0 c1 : List Nat) : Prop := ZM s n st.1 st.2.1 c0 c1 ∧ RW s n st.2.2
/-- ages grow by k at most -/
def AG (A B A2 B2 : Nat → Nat) (k : Nat) : Prop := ∀ j, A j ≤ A2 j ∧ A2 j ≤ A j + k ∧ B j ≤ B2 j ∧ B2 j ≤ B j + k
theorem AG.rf {A B : Nat → Nat} {k : Nat} : AG A B A B k := fun j => ⟨Nat.le_refl _, by omega, Nat.le_refl _, by omega⟩
theorem AG.tr {A B A2 B2 A3 B3 : Nat → Nat} {k l : Nat} (h1 : AG A B A2 B2 k) (h2 : AG A2 B2 A3 B3 l) : AG A B A3 B3 (k + l) := fun j => by
  have := h1 j
  have := h2 j
  omega
theorem AG.up {A B A2 B2 : Nat → Nat} {k l : Nat} (h : AG A B A2 B2 k) (hl : k ≤ l) : AG A B A2 B2 l := fun j => by have := h j; omega
def AB (A B : Nat → Nat) (k : Nat) : Prop := ∀ j, j < 7 → A j + k < 2 ^ 24 ∧ B j + k < 2 ^ 24
theorem AB.go {A B A2 B2 : Nat → Nat} {k l : Nat} (h : AB A B (k + l)) (h2 : AG A B A2 B2 k) : AB A2 B2 l := fun j hj => by have := h j hj; have := h2 j; omega
theorem AB.less {A B : Nat → Nat} {k l : Nat} (h : AB A B k) (hl : l ≤ k) : AB A B l := fun j hj => by have := h j hj; omega
section TELLS
variable {n : Nat} {H A B : Nat → Nat} {c0 c1 : List Nat} {s : zS} {st : (Nat → Nat) × (Nat → Nat) × (Nat → Option Nat)}
theorem zsg_AG {A B : Nat → Nat} {A2 : Nat → Nat} {p : Nat} (h : ∀ j, j ≠ p → A2 j = A j) (h1 : A2 p ≤ A p + 1) (h2 : A p ≤ A2 p) : AG A B A2 B 1 := fun j => by
  by_cases e : j = p
  · subst e; omega
  · rw [h j e]; omega
theorem zsg_BG {A B : Nat → Nat} {B2 : Nat → Nat} {p : Nat} (h : ∀ j, j ≠ p → B2 j = B j) (h1 : B2 p ≤ B p + 1) (h2 : B p ≤ B2 p) : AG A B A B2 1 := fun j => by
  by_cases e : j = p
  · subst e; omega
  · rw [h j e]; omega
theorem part_7 (hS : CSt s n st H c0 c1 A B) {b : Nat} (hb : b < 2 ^ 31) : ∃ s', f_X1_tryPart (nI b) s = some (nI (zdo n c0 c1 1 0 b st).1, s') ∧ CSt s' n (zdo n c0 c1 1 0 b st).2 H c0 c1 A B ∧ zk_k [8] s s' := by
  obtain ⟨hK, hW⟩ := hS
  have hZ := hK.1.1.1
  unfold f_X1_tryPart f_X1_tryPart_27 zdo
  rw [if_neg (by decide), if_pos rfl, hasK hZ hb, zbd_some]
  by_cases h : b < n
  · obtain ⟨s1, a1, a2, a3⟩ := leave7 hZ hW h
    rw [if_pos h, if_pos h, if_pos (by decide), a1, zbd_some]
    unfold zlc
    cases hw : st.2.2 b with
    | none =>
      rw [if_pos rfl, if_pos (by decide)]
      refine ⟨s1, rfl, ⟨hK.w a3 (by decide), ⟨fun j hj => ?_, hW.2⟩⟩, a3⟩
      rw [a2.1 j hj]
      unfold zlv
      by_cases e : j = b
      · subst e; rw [if_pos (Or.inl rfl), hw]
      · rw [if_neg (fun z => by rcases z with z | z <;> simp_all)]
    | some r =>
      rw [if_neg (show ¬ ¬ nI 1 = (1 : Int32) from fun z => z rfl), if_neg (show ¬ some r = none from fun z => by cases z)]
      exact ⟨s1, rfl, ⟨hK.w a3 (by decide), a2⟩, a3⟩
  · rw [if_neg h, if_neg (fun z => z rfl), if_neg h]
    exact ⟨s, rfl, ⟨hK, hW⟩, zk_k.rf⟩
theorem stroke_7 (hS : CSt s n st H c0 c1 A B) {a b : Nat} (ha : a < 2 ^ 31) (hb : b < 2 ^ 31) (hab : AB A B 1) : ∃ s' A2, f_X1_tryStroke (nI a) (nI b) s = some (nI (zdo n c0 c1 2 a b st).1, s') ∧ CSt s' n (zdo n c0 c1 2 a b st).2 H c0 c1 A2 B ∧ zk_k [4, 10] s s' ∧ AG A B A2 B 1 := by
  obtain ⟨hK, hW⟩ := hS
  have hZ := hK.1.1.1
  have hn := hZ.1
  unfold f_X1_tryStroke f_X1_tryStroke_21 zdo
  rw [if_neg (by decide), if_neg (by decide), if_pos rfl, hasK hZ ha, zbd_some]
  by_cases h : a < n
  · rw [if_pos h, if_neg (by decide), if_neg (nI_pos hb)]
    by_cases h9 : b < 9
    · obtain ⟨⟨y1, y2⟩, -⟩ := hZ.2.2.1 a h
      have hx : st.1 a ^^^ 2 ^ b < 512 := xor_lt y2 (by
        have : 2 ^ b < 2 ^ 9 := Nat.pow_lt_pow_right (by decide) h9
        omega)
      obtain ⟨s1, A2, a1, a2, a3, a4, a5, a6, a7⟩ := setsign7 hK (p := a) (by omega) (nI (st.1 a ^^^ 2 ^ b)) (G2 := zsg st.1 a (st.1 a ^^^ 2 ^ b)) (Or.inl ⟨h, _, rfl, hx, rfl⟩) (hab a (by omega)).1
      rw [if_pos (nI_lt h9 (by omega)), rd_4 s a rfl (by omega), Option.bind_some, y1, one_shl b (by omega), nI_xor, a1, zbd_some, if_pos ⟨h, h9⟩]
      exact ⟨s1, A2, rfl, ⟨a2, hW.keep a3 (by decide)⟩, a3, zsg_AG (fun j hj => (a5 j hj).2) a6 a7⟩
    · rw [if_neg (nI_nlt (by omega) hb), if_neg (fun z => h9 z.2)]
      exact ⟨s, A, rfl, ⟨hK, hW⟩, zk_k.rf, AG.rf⟩
  · rw [if_neg h, if_pos rfl, if_neg (fun z => h z.1)]
    exact ⟨s, A, rfl, ⟨hK, hW⟩, zk_k.rf, AG.rf⟩
theorem mark_7 (hS : CSt s n st H c0 c1 A B) {a b : Nat} (ha : a < 2 ^ 31) (hb : b < 2 ^ 31) (hab : AB A B 1) : ∃ s' B2, f_X1_tryMark (nI a) (nI b) s = some (nI (zdo n c0 c1 3 a b st).1, s') ∧ CSt s' n (zdo n c0 c1 3 a b st).2 H c0 c1 A B2 ∧ zk_k [5, 11] s s' ∧ AG A B A B2 1 := by
  obtain ⟨hK, hW⟩ := hS
  have hZ := hK.1.1.1
  have hn := hZ.1
  unfold f_X1_tryMark f_X1_tryMark_21 zdo
  rw [if_neg (by decide), if_neg (by decide), if_neg (by decide), if_pos rfl, hasK hZ ha, zbd_some]
  by_cases h : a < n
  · rw [if_pos h, if_neg (by decide), if_neg (nI_pos hb)]
    by_cases h9 : b < 10
    · obtain ⟨s1, B2, a1, a2, a3, a4, a5, a6, a7⟩ := setmark7 hK (p := a) (by omega) (nI b) (M2 := zsg st.2.1 a b) (Or.inl ⟨h, _, rfl, h9, rfl⟩) (hab a (by omega)).2
      rw [if_pos (nI_lt h9 (by omega)), a1, zbd_some, if_pos ⟨h, h9⟩]
      exact ⟨s1, B2, rfl, ⟨a2, hW.keep a3 (by decide)⟩, a3, zsg_BG (fun j hj => (a5 j hj).2) a6 a7⟩
    · rw [if_neg (nI_nlt (by omega) hb), if_neg (fun z => h9 z.2)]
      exact ⟨s, B, rfl, ⟨hK, hW⟩, zk_k.rf, AG.rf⟩
  · rw [if_neg h, if_pos rfl, if_neg (fun z => h z.1)]
    exact ⟨s, B, rfl, ⟨hK, hW⟩, zk_k.rf, AG.rf⟩
theorem engage_7 (hS : CSt s n st H c0 c1 A B) {a b : Nat} (ha : a < 2 ^ 31) (hb : b < 2 ^ 31) : ∃ s', f_X1_tryEngage (nI a) (nI b) s = some (nI (zdo n c0 c1 0 a b st).1, s') ∧ CSt s' n (zdo n c0 c1 0 a b st).2 H c0 c1 A B ∧ zk_k (8 :: 72 :: RC) s s' ∧ ((zdo n c0 c1 0 a b st).1 = 0 → s'.1 72 3 = nI (zlc st.2.2 a + zlc (zlv st.2.2 a) b)) ∧ (∀ j, j ≠ 3 → s'.1 72 j = s.1 72 j) := by
  obtain ⟨hK, hW⟩ := hS
  have hZ := hK.1.1.1
  unfold zdo
  rw [if_pos rfl]
  by_cases h : a < n ∧ b < n ∧ a ≠ b
  · obtain ⟨s1, a1, a2, a3, a4, a5, a6⟩ := eng_7 hK hW h.1 h.2.1 h.2.2
    rw [if_pos h, a1]
    by_cases e : zwe st.1 st.2.1 c0 c1 st.2.2 a b = 0
    · rw [if_pos e] at a3 ⊢
      exact ⟨s1, by rw [e], ⟨a2, a3⟩, a5, fun _ => a4 e, a6⟩
    · rw [if_neg e] at a3 ⊢
      exact ⟨s1, rfl, ⟨a2, a3⟩, a5, fun z => absurd z e, a6⟩
  · rw [if_neg h]
    have k0 : zk_k [72] s (zs_i s 72 3 0) := zk_k.rf.i (by simp)
    have hK0 := hK.w k0 (by decide)
    have e2 : f_X5_areTwo_3 (nI a) (nI b) (zs_i s 72 3 0) = some (0, zs_i s 72 3 0) := by rw [two7 hK0.1.1.1 ha hb, if_neg h]
    refine ⟨_, ?_, ⟨hK0, hW.keep k0 (by decide)⟩, k0.mono (by decide), fun z => (by cases z), fun j hj => zs_i_o _ _ _ _ _ hj⟩
    rw [f_X1_tryEngage, zb_eq, e2, zbd_some, if_neg (fun z => z rfl)]
    rfl
theorem deed7 (hS : CSt s n st H c0 c1 A B) {k a b : Nat} (hk : k ≤ 4) (ha : a < 100) (hb : b < 100) (h10 : k = 1 → zdo n c0 c1 1 a b st = zdo n c0 c1 1 0 b st) (hab : AB A B 1) : ∃ s' A2 B2, f_X1_tryDeed (nI k) (nI a) (nI b) s = some (nI (zdo n c0 c1 k a b st).1, s') ∧ CSt s' n (zdo n c0 c1 k a b st).2 H c0 c1 A2 B2 ∧ zk_k DC s s' ∧ AG A B A2 B2 1 ∧ (∀ j, j ≠ 3 → s'.1 72 j = s.1 72 j) := by
  unfold f_X1_tryDeed
  rcases (by omega : k = 0 ∨ k = 1 ∨ k = 2 ∨ k = 3 ∨ k = 4) with rfl | rfl | rfl | rfl | rfl
  · obtain ⟨s1, a1, a2, a3, -, a5⟩ := engage_7 hS (a := a) (b := b) (by omega) (by omega)
    rw [if_pos (show nI 0 = (0 : Int32) from rfl), a1, zbd_some]
    exact ⟨s1, A, B, rfl, a2, a3.mono (by decide), AG.rf, a5⟩
  · obtain ⟨s1, a1, a2, a3⟩ := part_7 hS (b := b) (by omega)
    rw [h10 rfl, if_neg (by decide), if_pos (show nI 1 = (1 : Int32) from rfl), a1, zbd_some]
    exact ⟨s1, A, B, rfl, a2, a3.mono (by decide), AG.rf, fun j _ => by rw [(a3 72 (by decide)).1]⟩
  · obtain ⟨s1, A2, a1, a2, a3, a4⟩ := stroke_7 hS (a := a) (b := b) (by omega) (by omega) hab
    rw [if_neg (by decide), if_neg (by decide), if_pos rfl, a1, zbd_some]
    exact ⟨s1, A2, B, rfl, a2, a3.mono (by decide), a4, fun j _ => by rw [(a3 72 (by decide)).1]⟩
  · obtain ⟨s1, B2, a1, a2, a3, a4⟩ := mark_7 hS (a := a) (b := b) (by omega) (by omega) hab
    rw [if_neg (by decide), if_neg (by decide), if_neg (by decide), if_pos rfl, a1, zbd_some]
    exact ⟨s1, A, B2, rfl, a2, a3.mono (by decide), a4, fun j _ => by rw [(a3 72 (by decide)).1]⟩
  · rw [if_neg (by decide), if_neg (by decide), if_neg (by decide), if_neg (by decide)]
    have e : zdo n c0 c1 4 a b st = (1, st) := by unfold zdo; rw [if_neg (by decide), if_neg (by decide), if_neg (by decide), if_neg (by decide)]
    rw [e]
    exact ⟨s, A, B, rfl, hS, zk_k.rf, AG.rf, fun _ _ => rfl⟩
theorem zdo_2 (a b : Nat) : zdo n c0 c1 2 a b st = if a < n ∧ b < 9 then (0, zsg st.1 a (st.1 a ^^^ 2 ^ b), st.2) else (1, st) := by
  unfold zdo
  rw [if_neg (by decide), if_neg (by decide), if_pos rfl]
theorem zdo_3 (a b : Nat) : zdo n c0 c1 3 a b st = if a < n ∧ b < 10 then (0, st.1, zsg st.2.1 a b, st.2.2) else (1, st) := by
  unfold zdo
  rw [if_neg (by decide), if_neg (by decide), if_neg (by decide), if_pos rfl]
/-- the reference: why not, and doing it -/
theorem dec_1 : ∀ v, v < 400 → (zo_lrem (lN v) (100 : Int64)) / (10 : Int64) = (nI (v % 100 / 10)).toInt64 ∧ zo_lrem (lN v) (10 : Int64) = (nI (v % 10)).toInt64 ∧ (lN v).toInt32 = nI v := by decide +kernel
theorem wi_l {v lo hi : Nat} (s : zS) (hv : v < 2 ^ 62) (hlo : lo < 2 ^ 62) (hhi : hi < 2 ^ 62) : f_X8_within (lN v) (lN lo) (lN hi) s = some (if lo ≤ v ∧ v ≤ hi then 1 else 0, s) := by
  rw [wi_ok]
  have h1 : (lN lo ≤ lN v) ↔ lo ≤ v := pk_lLE (by omega) (by omega)
  have h2 : (lN v ≤ lN hi) ↔ v ≤ hi := pk_lLE (by omega) (by omega)
  simp only [h1, h2]
theorem ink8c {c : Nat} (hc : c < 2 ^ 31) (s : zS) : f_X8_isInkCell (nI c).toInt64 s = some (if c < 9 then 1 else 0, s) := by
  rw [f_X8_isInkCell, nI_l hc]
  have := wi_l (v := c) (lo := 0) (hi := 8) s (by omega) (by decide) (by decide)
  have e : f_X8_within (lN c) (0 : Int64) (8 : Int64) s = some (if c < 9 then 1 else 0, s) := by
    refine this.trans ?_
    congr 2
    by_cases h : c < 9
    · rw [if_pos (by omega), if_pos h]
    · rw [if_neg (by omega), if_neg h]
  rw [e, zbd_some]
  split <;> simp
theorem whypart8 (hR : RSt s n st c0 c1) {b : Nat} (hb : b < 2 ^ 31) : f_X8_whyPart (nI b).toInt64 s = some (nI (zdo n c0 c1 1 0 b st).1, s) := by
  have hn := hR.1.1
  unfold f_X8_whyPart f_X8_whyPart_31 zdo
  rw [if_neg (by decide), if_pos rfl, perM hR.1 hb, zbd_some]
  by_cases h : b < n
  · rw [if_pos h, if_pos h, if_pos (by decide), Int32.toInt32_toInt64, rd_77 s (22 + b) (nI_add _ _) (by omega), Option.bind_some, hR.2.1 b h]
    cases hw : st.2.2 b with
    | none => rw [show oI none = (-1 : Int32) from rfl, if_neg (fun z => z rfl), if_pos rfl]
    | some r =>
      have := (hR.2.2 b r h hw).1
      rw [show oI (some r) = nI r from rfl, if_pos (ne_m1 (by omega)), if_neg (by simp)]
      rfl
  · rw [if_neg h, if_neg (fun z => z rfl), if_neg h]
    rfl
theorem RDf.w {t : zS} (hk : zk_k [77] s t) (h : ∀ j, (j < 22 ∨ 43 ≤ j) → t.1 77 j = s.1 77 j) : RDf s t := ⟨⟨hk.mono (by simp), by rw [(hk 76 (by decide)).1], by rw [(hk 76 (by decide)).1], by rw [(hk 76 (by decide)).1], by rw [(hk 76 (by decide)).1]⟩, h, by rw [(hk 93 (by decide)).1]⟩
theorem stroke8 (hR : RSt s n st c0 c1) {a b : Nat} (ha : a < n) (hb : b < 9) : RSt (zs_i s 77 (29 + a) (nI (st.1 a ^^^ 2 ^ b))) n (zsg st.1 a (st.1 a ^^^ 2 ^ b), st.2) c0 c1 ∧ RDf s (zs_i s 77 (29 + a) (nI (st.1 a ^^^ 2 ^ b))) := by
  have hn := hR.1.1
  obtain ⟨⟨y1, y2⟩, -⟩ := hR.1.2.2.1 a ha
  have hx : st.1 a ^^^ 2 ^ b < 512 := xor_lt y2 (by
    have : 2 ^ b < 2 ^ 9 := Nat.pow_lt_pow_right (by decide) hb
    omega)
  refine ⟨⟨hR.1.set (fun j hj => zs_i_o _ _ _ _ _ (by omega)) (fun p hp => ?_), ⟨fun p hp => ?_, hR.2.2⟩⟩, RDf.w (zk_k.rf.i (by simp)) (fun j hj => zs_i_o _ _ _ _ _ (by omega))⟩
  · obtain ⟨z1, z2⟩ := hR.1.2.2.1 p hp
    rw [zs_i_o _ _ _ _ _ (show 36 + p ≠ 29 + a by omega)]
    refine ⟨?_, z2⟩
    show (zs_i s 77 (29 + a) (nI (st.1 a ^^^ 2 ^ b))).1 77 (29 + p) = nI (zsg st.1 a (st.1 a ^^^ 2 ^ b) p) ∧ zsg st.1 a (st.1 a ^^^ 2 ^ b) p < 512
    unfold zsg
    by_cases e : p = a
    · subst e; rw [zs_i_v, if_pos rfl]; exact ⟨rfl, hx⟩
    · rw [zs_i_o _ _ _ _ _ (by omega), if_neg e]; exact z1
  · rw [zs_i_o _ _ _ _ _ (by omega)]; exact hR.2.1 p hp
theorem mark8 (hR : RSt s n st c0 c1) {a b : Nat} (ha : a < n) (hb : b < 10) : RSt (zs_i s 77 (36 + a) (nI b)) n (st.1, zsg st.2.1 a b, st.2.2) c0 c1 ∧ RDf s (zs_i s 77 (36 + a) (nI b)) := by
  have hn := hR.1.1
  refine ⟨⟨hR.1.set (fun j hj => zs_i_o _ _ _ _ _ (by omega)) (fun p hp => ?_), ⟨fun p hp => ?_, hR.2.2⟩⟩, RDf.w (zk_k.rf.i (by simp)) (fun j hj => zs_i_o _ _ _ _ _ (by omega))⟩
  · obtain ⟨z1, z2⟩ := hR.1.2.2.1 p hp
    rw [zs_i_o _ _ _ _ _ (show 29 + p ≠ 36 + a by omega)]
    refine ⟨z1, ?_⟩
    show (zs_i s 77 (36 + a) (nI b)).1 77 (36 + p) = nI (zsg st.2.1 a b p) ∧ zsg st.2.1 a b p < 10
    unfold zsg
    by_cases e : p = a
    · subst e; rw [zs_i_v, if_pos rfl]; exact ⟨rfl, hb⟩
    · rw [zs_i_o _ _ _ _ _ (by omega), if_neg e]; exact z2
  · rw [zs_i_o _ _ _ _ _ (by omega)]; exact hR.2.1 p hp
theorem deed8 (hR : RSt s n st c0 c1) {v : Nat} (hv : v < 400) (hno : ¬ (109 < v ∧ v < 200)) : ∃ s1, f_X8_whyNot (lN v) s = some (nI (zdo n c0 c1 (v / 100) (v % 100 / 10) (v % 10) st).1, s1) ∧ RSt s1 n st c0 c1 ∧ RDf s s1 ∧ ((zdo n c0 c1 (v / 100) (v % 100 / 10) (v % 10) st).1 = 0 → ∀ u, RSt u n st c0 c1 → ∃ s2, f_X8_does (nI v) u = some ((), s2) ∧ RSt s2 n (zdo n c0 c1 (v / 100) (v % 100 / 10) (v % 10) st).2 c0 c1 ∧ RDf u s2 ∧ zk_k [77] u s2) := by
  have hn := hR.1.1
  obtain ⟨d1, d2, -⟩ := dec_1 v hv
  have w1 := fun u => wi_l (v := v) (lo := 0) (hi := 99) u (by omega) (by decide) (by decide)
  have w2 := fun u => wi_l (v := v) (lo := 100) (hi := 109) u (by omega) (by decide) (by decide)
  have w3 := fun u => wi_l (v := v) (lo := 200) (hi := 299) u (by omega) (by decide) (by decide)
  have w4 := fun u => wi_l (v := v) (lo := 300) (hi := 399) u (by omega) (by decide) (by decide)
  have w1' : ∀ u, f_X8_within (lN v) (0 : Int64) (99 : Int64) u = some (if 0 ≤ v ∧ v ≤ 99 then 1 else 0, u) := w1
  have w2' : ∀ u, f_X8_within (lN v) (100 : Int64) (109 : Int64) u = some (if 100 ≤ v ∧ v ≤ 109 then 1 else 0, u) := w2
  have w3' : ∀ u, f_X8_within (lN v) (200 : Int64) (299 : Int64) u = some (if 200 ≤ v ∧ v ≤ 299 then 1 else 0, u) := w3
  have w4' : ∀ u, f_X8_within (lN v) (300 : Int64) (399 : Int64) u = some (if 300 ≤ v ∧ v ≤ 399 then 1 else 0, u) := w4
  have ed : ∀ u, f_X8_does (nI v) u = (if (nI 100) ≤ nI v then (if (nI 200) ≤ nI v then (if (nI 300) ≤ nI v then ((zw_i u 77 ((nI 36) + nI (v % 100 / 10)) (nI (v % 10))).bind fun s3 => f_X8_does_80 s3) else (zr_i u 77 ((nI 29) + nI (v % 100 / 10))).bind fun x4 => (zw_i u 77 ((nI 29) + nI (v % 100 / 10)) (x4 ^^^ (zo_shl (1 : Int32) (nI (v % 10))))).bind fun s5 => f_X8_does_80 s5) else zbd (f_X8_leaves (nI (v % 10)) u) fun r6 s7 => f_X8_does_80 s7) else zbd (f_X8_engages (nI (v % 100 / 10)) (nI (v % 10)) u) fun r8 s9 => f_X8_does_80 s9) := fun u => by
    rw [f_X8_does, show zo_rem (nI v) (nI 100) = nI (v % 100) from pk_rem (by omega) (by decide) (by decide), pk_div (by omega) (by decide) (by decide), show zo_rem (nI v) (nI 10) = nI (v % 10) from pk_rem (by omega) (by decide) (by decide), zb_eq, zb_eq]
  rw [f_X8_whyNot, d1, d2, zb_eq, zb_eq]
  by_cases c1' : v ≤ 99
  · have ek : v / 100 = 0 := by omega
    have x1 : f_X8_within (lN v) (0 : Int64) (99 : Int64) s = some (1, s) := by rw [w1', if_pos ⟨Nat.zero_le _, c1'⟩]
    rw [x1, zbd_some, if_neg (by decide), ek]
    by_cases h : v % 100 / 10 < n ∧ v % 10 < n ∧ v % 100 / 10 ≠ v % 10
    · obtain ⟨s1, a1, a2, a3, a4⟩ := why8 hR.1 hR.2 h.1 h.2.1 h.2.2
      rw [a1, zbd_some]
      unfold zdo
      rw [if_pos rfl, if_pos h]
      by_cases e : zwe st.1 st.2.1 c0 c1 st.2.2 (v % 100 / 10) (v % 10) = 0
      · rw [if_pos e, e]
        refine ⟨s1, rfl, ⟨a2, a3⟩, a4, fun _ u hu => ?_⟩
        obtain ⟨s2, b1, b2, b3, b4, b5⟩ := eng_8 hu.1 hu.2 h.1 h.2.1 h.2.2
        refine ⟨s2, ?_, ⟨b2, b3⟩, RDf.w b4 (fun j hj => b5 j (by omega)), b4⟩
        rw [ed, if_neg (nI_ge (by omega) (by omega)), b1, zbd_some]; rfl
      · rw [if_neg e]
        exact ⟨s1, rfl, ⟨a2, a3⟩, a4, fun z => absurd z e⟩
    · have e2 : f_X8_whyEngage (nI (v % 100 / 10)).toInt64 (nI (v % 10)).toInt64 s = some (1, s) := by
        rw [f_X8_whyEngage, two8 hR.1 (by omega) (by omega), if_neg h, zbd_some, if_neg (fun z => z rfl)]
      rw [e2, zbd_some]
      unfold zdo
      rw [if_pos rfl, if_neg h]
      exact ⟨s, rfl, hR, RDf.rf, fun z => (by cases z)⟩
  have x1 : f_X8_within (lN v) (0 : Int64) (99 : Int64) s = some (0, s) := by rw [w1', if_neg (fun z => c1' z.2)]
  rw [x1, zbd_some, if_pos rfl]
  by_cases c2' : v ≤ 109
  · have ek : v / 100 = 1 := by omega
    have ea : v % 100 / 10 = 0 := by omega
    have x2 : f_X8_within (lN v) (100 : Int64) (109 : Int64) s = some (1, s) := by rw [w2', if_pos ⟨by omega, c2'⟩]
    rw [x2, zbd_some, if_neg (by decide), ek, ea, whypart8 hR (by omega), zbd_some]
    refine ⟨s, rfl, hR, RDf.rf, fun z u hu => ?_⟩
    rw [ed, if_pos (nI_le (by omega) (by omega)), if_neg (nI_ge (by omega) (by omega))]
    unfold zdo at z ⊢
    rw [if_neg (by decide), if_pos rfl] at z ⊢
    by_cases h : v % 10 < n
    · obtain ⟨s2, b1, b2, b3, b4⟩ := leave8 hu.1 hu.2 h
      rw [if_pos h] at z ⊢
      by_cases e : st.2.2 (v % 10) = none
      · rw [if_pos e] at z; cases z
      · rw [if_neg e, b1, zbd_some]
        exact ⟨s2, rfl, ⟨hu.1.w b4, b2⟩, RDf.w b3 (fun j hj => b4 j (by omega)), b3⟩
    · rw [if_neg h] at z; cases z
  have x2 : f_X8_within (lN v) (100 : Int64) (109 : Int64) s = some (0, s) := by rw [w2', if_neg (fun z => c2' z.2)]
  rw [x2, zbd_some, if_pos rfl]
  by_cases c3' : v ≤ 299
  · have ek : v / 100 = 2 := by omega
    have x3 : f_X8_within (lN v) (200 : Int64) (299 : Int64) s = some (1, s) := by rw [w3', if_pos ⟨by omega, c3'⟩]
    rw [x3, zbd_some, if_neg (by decide), ek, perM hR.1 (by omega), zbd_some]
    rw [zdo_2]
    by_cases h : v % 100 / 10 < n
    · rw [if_pos h, if_neg (by decide), ink8c (by omega), zbd_some]
      by_cases h9 : v % 10 < 9
      · rw [if_pos h9, if_neg (by decide), if_pos ⟨h, h9⟩]
        refine ⟨s, rfl, hR, RDf.rf, fun _ u hu => ?_⟩
        obtain ⟨b1, b2⟩ := stroke8 hu h h9
        refine ⟨_, ?_, b1, b2, zk_k.rf.i (by simp)⟩
        rw [ed, if_pos (nI_le (by omega) (by omega)), if_pos (nI_le (by omega) (by omega)), if_neg (nI_ge (by omega) (by omega)), rd_77 u (29 + v % 100 / 10) (nI_add _ _) (by omega), Option.bind_some, (hu.1.2.2.1 _ h).1.1, one_shl (v % 10) (by omega), nI_xor, wr_77 u (29 + v % 100 / 10) (nI_add _ _) (by omega), Option.bind_some]; rfl
      · rw [if_neg h9, if_pos rfl, if_neg (fun z => h9 z.2)]
        exact ⟨s, rfl, hR, RDf.rf, fun z => (by cases z)⟩
    · rw [if_neg h, if_pos rfl, if_neg (fun z => h z.1)]
      exact ⟨s, rfl, hR, RDf.rf, fun z => (by cases z)⟩
  have x3 : f_X8_within (lN v) (200 : Int64) (299 : Int64) s = some (0, s) := by rw [w3', if_neg (fun z => c3' z.2)]
  have x4 : f_X8_within (lN v) (300 : Int64) (399 : Int64) s = some (1, s) := by rw [w4', if_pos ⟨by omega, by omega⟩]
  rw [x3, zbd_some, if_pos rfl, x4, zbd_some, if_neg (by decide), show v / 100 = 3 by omega, perM hR.1 (by omega), zbd_some]
  rw [zdo_3]
  by_cases h : v % 100 / 10 < n
  · rw [if_pos h, if_neg (by decide), if_pos ⟨h, by omega⟩]
    refine ⟨s, rfl, hR, RDf.rf, fun _ u hu => ?_⟩
    obtain ⟨b1, b2⟩ := mark8 hu h (show v % 10 < 10 by omega)
    refine ⟨_, ?_, b1, b2, zk_k.rf.i (by simp)⟩
    rw [ed, if_pos (nI_le (by omega) (by omega)), if_pos (nI_le (by omega) (by omega)), if_pos (nI_le (by omega) (by omega)), wr_77 u (36 + v % 100 / 10) (nI_add _ _) (by omega), Option.bind_some]; rfl
  · rw [if_neg h, if_pos rfl, if_neg (fun z => h z.1)]
    exact ⟨s, rfl, hR, RDf.rf, fun z => (by cases z)⟩
end TELLS
