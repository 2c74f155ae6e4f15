/-- deeds, as they are -/
def zlv (W : Nat → Option Nat) (p : Nat) : Nat → Option Nat := fun j => if j = p ∨ W p = some j then none else W j
def zlc (W : Nat → Option Nat) (p : Nat) : Nat := match W p with
  | none => 0
  | some _ => 1
def zvv (n : Nat) (W : Nat → Option Nat) : Prop := ∀ p q, p < n → W p = some q → q < n ∧ q ≠ p ∧ W q = some p
theorem zlv_v {n : Nat} {W : Nat → Option Nat} (h : zvv n W) {r : Nat} (hr : r < n) : zvv n (zlv W r) := by
  intro p q hp hq
  unfold zlv at hq ⊢
  by_cases e : p = r ∨ W r = some p
  · rw [if_pos e] at hq; cases hq
  · rw [if_neg e] at hq
    obtain ⟨h1, h2, h3⟩ := h p q hp hq
    refine ⟨h1, h2, ?_⟩
    rw [if_neg (fun z => ?_)]
    · exact h3
    · rcases z with rfl | z
      · exact e (Or.inr h3)
      · have := (h r q hr z).2.2
        rw [h3] at this
        cases this
        exact e (Or.inl rfl)
theorem zlv_none {W : Nat → Option Nat} {p : Nat} : zlv W p p = none := by unfold zlv; rw [if_pos (Or.inl rfl)]
theorem zlv_n2 {W : Nat → Option Nat} {p q : Nat} (h : W q = none) : zlv W p q = none := by
  unfold zlv
  split
  · rfl
  · exact h
theorem zup_v {n : Nat} {W : Nat → Option Nat} (h : zvv n W) {p q : Nat} (hp : p < n) (hq : q < n) (hpq : p ≠ q) (wp : W p = none) (wq : W q = none) : zvv n (zup W p q) := by
  intro a b ha hab
  unfold zup at hab ⊢
  by_cases e1 : a = p
  · rw [if_pos e1] at hab
    cases hab
    subst e1
    exact ⟨hq, Ne.symm hpq, by rw [if_neg (Ne.symm hpq), if_pos rfl]⟩
  · rw [if_neg e1] at hab
    by_cases e2 : a = q
    · rw [if_pos e2] at hab
      cases hab
      subst e2
      exact ⟨hp, hpq, by rw [if_pos rfl]⟩
    · rw [if_neg e2] at hab
      obtain ⟨h1, h2, h3⟩ := h a b ha hab
      refine ⟨h1, h2, ?_⟩
      rw [if_neg (fun z => by subst z; rw [wp] at h3; cases h3), if_neg (fun z => by subst z; rw [wq] at h3; cases h3)]
      exact h3
def zen (W : Nat → Option Nat) (p q : Nat) : Nat → Option Nat := zup (zlv (zlv W p) q) p q
def zwe (G M : Nat → Nat) (c0 c1 : List Nat) (W : Nat → Option Nat) (p q : Nat) : Nat := if W p = some q then 2 else if zmt G M c0 c1 p q then (if zlo G M c1 p q (W p) && zlo G M c1 q p (W q) then 0 else 4) else 3
def KW (s : zS) (n : Nat) (W : Nat → Option Nat) : Prop := (∀ p, p < n → s.1 8 p = oI (W p)) ∧ zvv n W
def RW (s : zS) (n : Nat) (W : Nat → Option Nat) : Prop := (∀ p, p < n → s.1 77 (22 + p) = oI (W p)) ∧ zvv n W
theorem KW.keep {s t : zS} {T : List Nat} {n : Nat} {W : Nat → Option Nat} (h : KW s n W) (hk : zk_k T s t) (hd : 8 ∉ T) : KW t n W := ⟨fun p hp => by rw [(hk 8 hd).1]; exact h.1 p hp, h.2⟩
theorem RW.keep {s t : zS} {n : Nat} {W : Nat → Option Nat} (h : RW s n W) (hk : t.1 77 = s.1 77) : RW t n W := ⟨fun p hp => by rw [hk]; exact h.1 p hp, h.2⟩
section DEEDS
variable {n : Nat} {G M H D A B : Nat → Nat} {c0 c1 : List Nat} {s : zS} {W : Nat → Option Nat}
theorem hasK (hZ : ZK s n G M c0 c1) {p : Nat} (hp : p < 2 ^ 31) : f_X5_has_3 (nI p) s = some (if p < n then 1 else 0, s) := by
  have hn := hZ.1
  unfold f_X5_has_3 f_X5_has_3_22 f_X5_has_3_23
  rw [if_neg (nI_pos hp), hZ.2.1]
  by_cases h : p < n
  · rw [if_neg (nI_ge h (by omega)), if_neg (nI_ge (by omega) (by omega)), if_pos h]; rfl
  · rw [if_pos (nI_le (by omega) hp), if_neg h]; rfl
theorem hasK_m1 : f_X5_has_3 (-1) s = some (0, s) := has_neg (by decide)
theorem perM (hZ : ZM s n G M c0 c1) {p : Nat} (hp : p < 2 ^ 31) : f_X8_isPerson (nI p).toInt64 s = some (if p < n then 1 else 0, s) := by
  have hn := hZ.1
  unfold f_X8_isPerson
  rw [r77_1 s, Option.bind_some, hZ.2.1, wi_sub _ _ (by omega), nI_toInt hp]
  by_cases h : p < n
  · rw [if_pos (by omega), zbd_some, if_pos h]; rfl
  · rw [if_neg (by omega), zbd_some, if_neg h]; rfl
theorem two7 (hZ : ZK s n G M c0 c1) {p q : Nat} (hp : p < 2 ^ 31) (hq : q < 2 ^ 31) : f_X5_areTwo_3 (nI p) (nI q) s = some (if p < n ∧ q < n ∧ p ≠ q then 1 else 0, s) := by
  unfold f_X5_areTwo_3 f_X5_areTwo_3_25 f_X5_areTwo_3_26
  rw [hasK hZ hp, zbd_some]
  by_cases h1 : p < n
  · rw [if_pos h1, if_neg (by decide), hasK hZ hq, zbd_some]
    by_cases h2 : q < n
    · rw [if_pos h2, if_neg (by decide)]
      by_cases h3 : p = q
      · rw [if_pos (by rw [h3])]; simp [h3]
      · rw [if_neg (ne_of_nI h3 hp hq)]; simp [h1, h2, h3]
    · rw [if_neg h2, if_pos rfl]; simp [h2]
  · rw [if_neg h1, if_pos rfl]; simp [h1]
theorem two8 (hZ : ZM s n G M c0 c1) {p q : Nat} (hp : p < 2 ^ 31) (hq : q < 2 ^ 31) : f_X8_areTwo (nI p).toInt64 (nI q).toInt64 s = some (if p < n ∧ q < n ∧ p ≠ q then 1 else 0, s) := by
  unfold f_X8_areTwo f_X8_areTwo_26 f_X8_areTwo_27
  rw [perM hZ hp, zbd_some]
  by_cases h1 : p < n
  · rw [if_pos h1, if_neg (by decide), perM hZ hq, zbd_some]
    by_cases h2 : q < n
    · rw [if_pos h2, if_neg (by decide)]
      by_cases h3 : p = q
      · rw [if_pos ((lg_eq0 _ _).mpr (by rw [h3]))]; simp [h3]
      · rw [if_neg (fun z => ne_of_nI h3 hp hq ((il_eq _ _).mp ((lg_eq0 _ _).mp z)))]; simp [h1, h2, h3]
    · rw [if_neg h2, if_pos rfl]; simp [h2]
  · rw [if_neg h1, if_pos rfl]; simp [h1]
theorem leave7 (hZ : ZK s n G M c0 c1) (hW : KW s n W) {p : Nat} (hp : p < n) : ∃ s', f_X1_leave (nI p) s = some (nI (zlc W p), s') ∧ KW s' n (zlv W p) ∧ zk_k [8] s s' := by
  have hn := hZ.1
  unfold f_X1_leave
  rw [rd_8 s p rfl (by omega), Option.bind_some, hW.1 p hp]
  cases hw : W p with
  | none =>
    rw [show oI none = (-1 : Int32) from rfl, hasK_m1, zbd_some, if_neg (fun z => z rfl)]
    refine ⟨s, by unfold zlc; rw [hw]; rfl, ⟨fun j hj => ?_, zlv_v hW.2 hp⟩, zk_k.rf⟩
    rw [hW.1 j hj]
    unfold zlv
    by_cases e : j = p
    · subst e; rw [if_pos (Or.inl rfl), hw]
    · rw [if_neg (fun z => by rcases z with z | z <;> simp_all)]
  | some r =>
    obtain ⟨h1, h2, h3⟩ := hW.2 p r hp hw
    rw [show oI (some r) = nI r from rfl, hasK hZ (by omega), zbd_some, if_pos h1, if_pos (by decide), wr_8 s r rfl (by omega), Option.bind_some, wr_8 _ p rfl (by omega), Option.bind_some]
    refine ⟨_, by unfold zlc; rw [hw]; rfl, ⟨fun j hj => ?_, zlv_v hW.2 hp⟩, (zk_k.rf.i (by simp)).i (by simp)⟩
    unfold zlv
    by_cases e : j = p
    · subst e; rw [zs_i_v, if_pos (Or.inl rfl)]; rfl
    · rw [zs_i_o _ _ _ _ _ e]
      by_cases e2 : j = r
      · subst e2; rw [zs_i_v, if_pos (Or.inr hw)]; rfl
      · rw [zs_i_o _ _ _ _ _ e2, if_neg (fun z => by
          rcases z with z | z
          · exact e z
          · rw [hw] at z; cases z; exact e2 rfl)]
        exact hW.1 j hj
theorem leave8 (hZ : ZM s n G M c0 c1) (hW : RW s n W) {p : Nat} (hp : p < n) : ∃ s', f_X8_leaves (nI p) s = some (nI (zlc W p), s') ∧ RW s' n (zlv W p) ∧ zk_k [77] s s' ∧ (∀ j, (j < 22 ∨ 29 ≤ j) → s'.1 77 j = s.1 77 j) := by
  have hn := hZ.1
  unfold f_X8_leaves
  rw [rd_77 s (22 + p) (nI_add _ _) (by omega), Option.bind_some, hW.1 p hp]
  cases hw : W p with
  | none =>
    rw [show oI none = (-1 : Int32) from rfl, if_neg (fun z => z rfl)]
    refine ⟨s, by unfold zlc; rw [hw]; rfl, ⟨fun j hj => ?_, zlv_v hW.2 hp⟩, zk_k.rf, fun _ _ => rfl⟩
    rw [hW.1 j hj]
    unfold zlv
    by_cases e : j = p
    · subst e; rw [if_pos (Or.inl rfl), hw]
    · rw [if_neg (fun z => by rcases z with z | z <;> simp_all)]
  | some r =>
    obtain ⟨h1, h2, h3⟩ := hW.2 p r hp hw
    rw [show oI (some r) = nI r from rfl, if_pos (ne_m1 (by omega)), wr_77 s (22 + p) (nI_add _ _) (by omega), Option.bind_some, wr_77 _ (22 + r) (nI_add _ _) (by omega), Option.bind_some]
    refine ⟨_, by unfold zlc; rw [hw]; rfl, ⟨fun j hj => ?_, zlv_v hW.2 hp⟩, (zk_k.rf.i (by simp)).i (by simp), fun j hj => by rw [zs_i_o _ _ _ _ _ (by omega), zs_i_o _ _ _ _ _ (by omega)]⟩
    unfold zlv
    by_cases e2 : j = r
    · subst e2; rw [zs_i_v, if_pos (Or.inr hw)]; rfl
    · rw [zs_i_o _ _ _ _ _ (by omega)]
      by_cases e : j = p
      · subst e; rw [zs_i_v, if_pos (Or.inl rfl)]; rfl
      · rw [zs_i_o _ _ _ _ _ (by omega), if_neg (fun z => by
          rcases z with z | z
          · exact e z
          · rw [hw] at z; cases z; exact e2 rfl)]
        exact hW.1 j hj
theorem JK.w {t : zS} (hK : JK s n G M H c0 c1 A B) {T : List Nat} (hk : zk_k T s t) (hd : ∀ k, k ∈ T → k ∈ [8, 72, 73, 74, 75]) : JK t n G M H c0 c1 A B := hK.keep hk (fun k hk1 hk2 => by
  have h3 := hd k hk2
  clear hk2
  revert k
  decide)
/-- the class engages two -/
theorem eng_7 (hK : JK s n G M H c0 c1 A B) (hW : KW s n W) {p q : Nat} (hp : p < n) (hq : q < n) (hpq : p ≠ q) : ∃ s', f_X1_tryEngage (nI p) (nI q) s = some (nI (zwe G M c0 c1 W p q), s') ∧ JK s' n G M H c0 c1 A B ∧ KW s' n (if zwe G M c0 c1 W p q = 0 then zen W p q else W) ∧ (zwe G M c0 c1 W p q = 0 → s'.1 72 3 = nI (zlc W p + zlc (zlv W p) q)) ∧ zk_k (8 :: 72 :: RC) s s' ∧ (∀ j, j ≠ 3 → s'.1 72 j = s.1 72 j) := by
  have hn := hK.1.1.1.1
  unfold f_X1_tryEngage f_X1_tryEngage_90
  rw [zb_eq]
  have k0 : zk_k [72] s (zs_i s 72 3 0) := zk_k.rf.i (by simp)
  have hK0 := hK.w k0 (by decide)
  have hW0 := hW.keep k0 (by decide)
  have e2 : f_X5_areTwo_3 (nI p) (nI q) (zs_i s 72 3 0) = some (1, zs_i s 72 3 0) := by rw [two7 hK0.1.1.1 (by omega) (by omega), if_pos ⟨hp, hq, hpq⟩]
  rw [e2, zbd_some, if_pos (by decide), rd_8 _ p rfl (by omega), Option.bind_some, hW0.1 p hp]
  have hwp : ∀ r, W p = some r → r < n ∧ r ≠ p := fun r hr => ⟨(hW.2 p r hp hr).1, (hW.2 p r hp hr).2.1⟩
  have hwq : ∀ r, W q = some r → r < n ∧ r ≠ q := fun r hr => ⟨(hW.2 q r hq hr).1, (hW.2 q r hq hr).2.1⟩
  have h72 : ∀ t, zk_k RC (zs_i s 72 3 0) t → ∀ j, j ≠ 3 → t.1 72 j = s.1 72 j := fun t ht j hj => by rw [(ht 72 (by decide)).1, zs_i_o _ _ _ _ _ hj]
  unfold zwe
  by_cases h2 : W p = some q
  · rw [if_neg (fun z => z ((oI_ne hn hq (fun r hr => (hwp r hr).1)).mpr h2)), if_pos h2]
    exact ⟨_, rfl, hK0, hW0, fun z => (by cases z), k0.mono (by decide), fun j hj => zs_i_o _ _ _ _ _ hj⟩
  rw [if_pos (fun z => h2 ((oI_ne hn hq (fun r hr => (hwp r hr).1)).mp z)), if_neg h2]
  obtain ⟨s1, a1, a2, a3⟩ := match7 hK0.1 hp hq hpq
  have hK1 := hK0.r a2 a3
  have hW1 := hW0.keep a3 (by decide)
  rw [a1, zbd_some]
  by_cases h3 : zmt G M c0 c1 p q = true
  · have like : ∀ (t : zS) (a b : Nat) (w : Option Nat), JK t n G M H c0 c1 A B → a < n → b < n → a ≠ b → (∀ r, w = some r → r < n ∧ r ≠ a) → ∃ t', f_X0_likesMore (nI a) (nI b) (oI w) t = some (if zlo G M c1 a b w then 1 else 0, t') ∧ JK t' n G M H c0 c1 A B ∧ zk_k RC t t' := by
      intro t a b w ht ha hb hab hw
      cases w with
      | none => exact ⟨t, more7_no a b, ht, zk_k.rf⟩
      | some r =>
        obtain ⟨t', b1, b2, b3⟩ := more7 ht.1 ha hb (hw r rfl).1 hab (Ne.symm (hw r rfl).2)
        exact ⟨t', b1, ht.r b2 b3, b3⟩
    obtain ⟨s2, b1, b2, b3⟩ := like s1 p q (W p) hK1 hp hq hpq hwp
    have hW2 := hW1.keep b3 (by decide)
    rw [if_pos h3, if_pos h3, if_pos (by decide), rd_8 s1 p rfl (by omega), Option.bind_some, hW1.1 p hp, b1, zbd_some]
    by_cases h4 : zlo G M c1 p q (W p) = true
    · obtain ⟨s3, d1, d2, d3⟩ := like s2 q p (W q) b2 hq hp (Ne.symm hpq) hwq
      have hW3 := hW2.keep d3 (by decide)
      have kk3 : zk_k RC (zs_i s 72 3 0) s3 := (a3.tr b3).tr d3
      rw [if_pos h4, if_neg (by decide), rd_8 s2 q rfl (by omega), Option.bind_some, hW2.1 q hq, d1, zbd_some]
      by_cases h5 : zlo G M c1 q p (W q) = true
      · obtain ⟨s4, e1, e2, e3⟩ := leave7 d2.1.1.1 hW3 hp
        have hK4 := d2.w e3 (by decide)
        obtain ⟨s5, f1, f2, f3⟩ := leave7 hK4.1.1.1 e2 hq
        have hK5 := hK4.w f3 (by decide)
        rw [if_pos h5, if_pos (by decide), e1, zbd_some, f1, zbd_some, zb_eq, nI_add, wr_8 _ p rfl (by omega), Option.bind_some, wr_8 _ q rfl (by omega), Option.bind_some]
        have k6 : zk_k [8, 72] s5 (zs_i (zs_i (zs_i s5 72 3 (nI (zlc W p + zlc (zlv W p) q))) 8 p (nI q)) 8 q (nI p)) := ((zk_k.rf.i (by simp)).i (by simp)).i (by simp)
        simp only [h4, h5, Bool.and_self, if_true]
        refine ⟨_, rfl, hK5.w k6 (by decide), ⟨fun j hj => ?_, ?_⟩, fun _ => ?_, ?_, fun j hj => ?_⟩
        · unfold zen zup
          by_cases e : j = p
          · subst e; rw [zs_i_o _ _ _ _ _ hpq, zs_i_v, if_pos rfl]; rfl
          · rw [if_neg e]
            by_cases e' : j = q
            · subst e'; rw [zs_i_v, if_pos rfl]; rfl
            · rw [zs_i_o _ _ _ _ _ e', zs_i_o _ _ _ _ _ e, zs_i_n _ _ _ _ _ (by decide), if_neg e']
              exact f2.1 j hj
        · exact zup_v f2.2 hp hq hpq (zlv_n2 zlv_none) zlv_none
        · rw [zs_i_n _ _ _ _ _ (by decide), zs_i_n _ _ _ _ _ (by decide), zs_i_v]
        · exact (k0.mono (by decide)).tr ((kk3.mono (by decide)).tr ((e3.mono (by decide)).tr ((f3.mono (by decide)).tr (k6.mono (by decide)))))
        · rw [zs_i_n _ _ _ _ _ (by decide), zs_i_n _ _ _ _ _ (by decide), zs_i_o _ _ _ _ _ hj, (f3 72 (by decide)).1, (e3 72 (by decide)).1]
          exact h72 s3 kk3 j hj
      · rw [if_neg h5, if_neg (fun z => z rfl)]
        simp only [h5, Bool.and_false, if_false, Bool.false_eq_true]
        exact ⟨s3, rfl, d2, hW3, fun z => (by cases z), (k0.mono (by decide)).tr (kk3.mono (by decide)), h72 s3 kk3⟩
    · rw [if_neg h4, if_pos rfl]
      simp only [h4, Bool.false_and, if_false, Bool.false_eq_true]
      exact ⟨s2, rfl, b2, hW2, fun z => (by cases z), (k0.mono (by decide)).tr ((a3.tr b3).mono (by decide)), h72 s2 (a3.tr b3)⟩
  · rw [if_neg h3, if_neg h3, if_neg (fun z => z rfl)]
    exact ⟨s1, rfl, hK1, hW1, fun z => (by cases z), (k0.mono (by decide)).tr (a3.mono (by decide)), h72 s1 a3⟩
/-- what the reference may change by deeds -/
def RDf (s t : zS) : Prop := zk_m (77 :: MC) s t ∧ (∀ j, (j < 22 ∨ 43 ≤ j) → t.1 77 j = s.1 77 j) ∧ t.1 93 0 = s.1 93 0
theorem RDf.rf {s : zS} : RDf s s := ⟨zk_m.rf, fun _ _ => rfl, rfl⟩
theorem RDf.tr {s t u : zS} (h1 : RDf s t) (h2 : RDf t u) : RDf s u := ⟨h1.1.tr h2.1, fun j hj => (h2.2.1 j hj).trans (h1.2.1 j hj), h2.2.2.trans h1.2.2⟩
theorem why8 (hZ : ZM s n G M c0 c1) (hW : RW s n W) {p q : Nat} (hp : p < n) (hq : q < n) (hpq : p ≠ q) : ∃ s', f_X8_whyEngage (nI p).toInt64 (nI q).toInt64 s = some (nI (zwe G M c0 c1 W p q), s') ∧ ZM s' n G M c0 c1 ∧ RW s' n W ∧ RDf s s' := by
  have hn := hZ.1
  have hwp : ∀ r, W p = some r → r < n ∧ r ≠ p := fun r hr => ⟨(hW.2 p r hp hr).1, (hW.2 p r hp hr).2.1⟩
  have hwq : ∀ r, W q = some r → r < n ∧ r ≠ q := fun r hr => ⟨(hW.2 q r hq hr).1, (hW.2 q r hq hr).2.1⟩
  unfold f_X8_whyEngage f_X8_whyEngage_99 f_X8_whyEngage_100
  have e2 : f_X8_areTwo (nI p).toInt64 (nI q).toInt64 s = some (1, s) := by rw [two8 hZ (by omega) (by omega), if_pos ⟨hp, hq, hpq⟩]
  rw [e2, zbd_some, if_pos (by decide), Int32.toInt32_toInt64, Int32.toInt32_toInt64, zb_eq, zb_eq, rd_77 s (22 + p) (nI_add _ _) (by omega), Option.bind_some, hW.1 p hp]
  unfold zwe
  by_cases h2 : W p = some q
  · rw [if_neg (fun z => z ((oI_ne hn hq (fun r hr => (hwp r hr).1)).mpr h2)), if_pos h2]
    exact ⟨s, rfl, hZ, hW, RDf.rf⟩
  rw [if_pos (fun z => h2 ((oI_ne hn hq (fun r hr => (hwp r hr).1)).mp z)), if_neg h2]
  obtain ⟨s1, a1, a2, a3, a4, a5⟩ := lays8 hZ
  have hZ1 := hZ.keep a5.1 (by decide)
  have hW1 : RW s1 n W := hW.keep (a5.1 77 (by decide)).1
  have kk : RDf s s1 := ⟨a5.mono (by decide), fun j _ => by rw [(a5.1 77 (by decide)).1], by rw [(a5.1 93 (by decide)).1]⟩
  rw [a1, zbd_some, match8 hZ1 a4 hp hq, zbd_some]
  by_cases h3 : zmt G M c0 c1 p q = true
  · rw [if_pos h3, if_pos h3, if_pos (by decide), rd_77 s1 (22 + p) (nI_add _ _) (by omega), Option.bind_some, hW1.1 p hp, lo8 hZ1 a3 hp hq hpq (W p) hwp, zbd_some]
    by_cases h4 : zlo G M c1 p q (W p) = true
    · rw [if_pos h4, if_neg (by decide), rd_77 s1 (22 + q) (nI_add _ _) (by omega), Option.bind_some, hW1.1 q hq, lo8 hZ1 a3 hq hp (Ne.symm hpq) (W q) hwq, zbd_some]
      by_cases h5 : zlo G M c1 q p (W q) = true
      · rw [if_pos h5, if_neg (by decide)]
        simp only [h4, h5, Bool.and_self, if_true]
        exact ⟨s1, rfl, hZ1, hW1, kk⟩
      · rw [if_neg h5, if_pos rfl]
        simp only [h5, Bool.and_false, if_false, Bool.false_eq_true]
        exact ⟨s1, rfl, hZ1, hW1, kk⟩
    · rw [if_neg h4, if_pos rfl]
      simp only [h4, Bool.false_and, if_false, Bool.false_eq_true]
      exact ⟨s1, rfl, hZ1, hW1, kk⟩
  · rw [if_neg h3, if_neg h3, if_neg (fun z => z rfl)]
    exact ⟨s1, rfl, hZ1, hW1, kk⟩
theorem ZM.w (hZ : ZM s n G M c0 c1) {t : zS} (h : ∀ j, (j < 22 ∨ 29 ≤ j) → t.1 77 j = s.1 77 j) : ZM t n G M c0 c1 := hZ.set (fun j hj => h j (by omega)) (fun p hp => by
  rw [h _ (by omega), h _ (by omega)]; exact hZ.2.2.1 p hp)
theorem eng_8 (hZ : ZM s n G M c0 c1) (hW : RW s n W) {p q : Nat} (hp : p < n) (hq : q < n) (hpq : p ≠ q) : ∃ s', f_X8_engages (nI p) (nI q) s = some (nI (zlc W p + zlc (zlv W p) q), s') ∧ ZM s' n G M c0 c1 ∧ RW s' n (zen W p q) ∧ zk_k [77] s s' ∧ (∀ j, (j < 22 ∨ 29 ≤ j) → s'.1 77 j = s.1 77 j) := by
  have hn := hZ.1
  unfold f_X8_engages
  obtain ⟨s1, a1, a2, a3, a4⟩ := leave8 hZ hW hp
  obtain ⟨s2, b1, b2, b3, b4⟩ := leave8 (hZ.w a4) a2 hq
  rw [a1, zbd_some, b1, zbd_some, nI_add, zb_eq, wr_77 s2 (22 + p) (nI_add _ _) (by omega), Option.bind_some, wr_77 _ (22 + q) (nI_add _ _) (by omega), Option.bind_some]
  have hf : ∀ j, (j < 22 ∨ 29 ≤ j) → (zs_i (zs_i s2 77 (22 + p) (nI q)) 77 (22 + q) (nI p)).1 77 j = s.1 77 j := fun j hj => by
    rw [zs_i_o _ _ _ _ _ (by omega), zs_i_o _ _ _ _ _ (by omega), b4 j hj, a4 j hj]
  refine ⟨_, rfl, hZ.w hf, ⟨fun j hj => ?_, zup_v b2.2 hp hq hpq (zlv_n2 zlv_none) zlv_none⟩, ((a3.tr b3).i (by simp)).i (by simp), hf⟩
  unfold zen zup
  by_cases e' : j = q
  · subst e'; rw [zs_i_v, if_neg (Ne.symm hpq), if_pos rfl]; rfl
  · rw [zs_i_o _ _ _ _ _ (by omega)]
    by_cases e : j = p
    · subst e; rw [zs_i_v, if_pos rfl]; rfl
    · rw [zs_i_o _ _ _ _ _ (by omega), if_neg e, if_neg e']
      exact b2.1 j hj
end DEEDS
