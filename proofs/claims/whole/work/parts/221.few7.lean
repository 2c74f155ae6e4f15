/-- what was reckoned at an age -/
def CA (x : Int32) (cur : Nat) (P : Prop) : Prop := ∃ e : Nat, x = nI e ∧ e ≤ cur ∧ (e = cur → P)
theorem CA.hit {x : Int32} {cur : Nat} {P : Prop} (h : CA x cur P) (hc : cur < 2 ^ 31) (hx : x = nI cur) : P := by
  obtain ⟨e, h1, h2, h3⟩ := h
  exact h3 ((nI_eq (by omega) hc).mp (h1.symm.trans hx))
theorem CA.mono {x : Int32} {cur : Nat} {P Q : Prop} (h : CA x cur P) (hq : P → Q) : CA x cur Q := by
  obtain ⟨e, h1, h2, h3⟩ := h
  exact ⟨e, h1, h2, fun z => hq (h3 z)⟩
theorem CA.up {x : Int32} {cur cur2 : Nat} {P Q : Prop} (h : CA x cur P) (hc : cur < cur2) : CA x cur2 Q := by
  obtain ⟨e, h1, h2, h3⟩ := h
  exact ⟨e, h1, by omega, fun z => by omega⟩
theorem CA.now {x : Int32} {cur : Nat} {P : Prop} (hx : x = nI cur) (h : P) : CA x cur P := ⟨cur, hx, Nat.le_refl _, fun _ => h⟩
def JA (s : zS) (A B : Nat → Nat) : Prop := ∀ p, p < 7 → s.1 10 p = nI (A p) ∧ s.1 11 p = nI (B p) ∧ 1 ≤ A p ∧ A p < 2 ^ 24 ∧ B p < 2 ^ 24
theorem JA.keep {s t : zS} {S : List Nat} {A B : Nat → Nat} (h : JA s A B) (hk : zk_k S s t) (hd : 10 ∉ S ∧ 11 ∉ S) : JA t A B := fun p hp => by
  rw [(hk 10 hd.1).1, (hk 11 hd.2).1]
  exact h p hp
def JC1 (s : zS) (n : Nat) (G A : Nat → Nat) : Prop := ∀ p q, p < q → q < 7 → CA (s.1 45 (7 * p + q)) (A p + A q) (q < n → s.1 44 (7 * p + q) = nI (zfew (G p) (G q)) ∧ ∀ i, i < 25 → s.1 43 ((7 * p + q) * 25 + i) = nI (zap (G p) (G q) i))
theorem JC1.keep {s t : zS} {S : List Nat} {n : Nat} {G A : Nat → Nat} (h : JC1 s n G A) (hk : zk_k S s t) (hd : 43 ∉ S ∧ 44 ∉ S ∧ 45 ∉ S) : JC1 t n G A := fun p hp => by
  rw [(hk 43 hd.1).1, (hk 44 hd.2.1).1, (hk 45 hd.2.2).1]
  exact h p hp
theorem min7 {p q : Nat} (hp : p < 2 ^ 31) (hq : q < 2 ^ 31) (s : zS) : f_J9_min_7cf53 (nI p) (nI q) s = some (nI (min p q), s) := by
  unfold f_J9_min_7cf53 f_J9_min_7cf53_10
  by_cases h : q < p
  · rw [if_pos (nI_lt h hp), Nat.min_eq_right (by omega)]
  · rw [if_neg (nI_nlt (by omega) hq), Nat.min_eq_left (by omega)]
theorem max7 {p q : Nat} (hp : p < 2 ^ 31) (hq : q < 2 ^ 31) (s : zS) : f_J9_max_7cf53 (nI p) (nI q) s = some (nI (max p q), s) := by
  unfold f_J9_max_7cf53 f_J9_max_7cf53_10
  by_cases h : p < q
  · rw [if_pos (nI_lt h hq), Nat.max_eq_right (by omega)]
  · rw [if_neg (nI_nlt (by omega) hp), Nat.max_eq_left (by omega)]
section FEW
variable {n : Nat} {G M A B : Nat → Nat} {c0 c1 : List Nat} {s : zS}
theorem few7_lt (hZ : ZK s n G M c0 c1) (hA : JA s A B) (hC : JC1 s n G A) {p q : Nat} (hpq : p < q) (hq : q < n) :
    ∃ s', f_X4_fewestOf (nI p) (nI q) s = some (nI (zfew (G p) (G q)), s') ∧ JC1 s' n G A ∧ s'.1 45 (7 * p + q) = nI (A p + A q) ∧ (∀ j, j ≠ 7 * p + q → s'.1 45 j = s.1 45 j) ∧ zk_k [43, 44, 45] s s' := by
  have hn := hZ.1
  have hAp := hA p (by omega)
  have hAq := hA q (by omega)
  unfold f_X4_fewestOf f_X4_fewestOf_103
  rw [min7 (by omega) (by omega), zbd_some, max7 (by omega) (by omega), zbd_some, Nat.min_eq_left (by omega), Nat.max_eq_right (by omega), zb_eq, pk_mul, nI_add, rd_10 s p rfl (by omega), Option.bind_some, rd_10 s q rfl (by omega), Option.bind_some, hAp.1, hAq.1, zb_eq, nI_add, rd_45 s (p * 7 + q) rfl (by omega), Option.bind_some, show p * 7 + q = 7 * p + q by omega]
  by_cases hh : s.1 45 (7 * p + q) = nI (A p + A q)
  · rw [if_pos hh, rd_44 s (7 * p + q) rfl (by omega), Option.bind_some, ((hC p q hpq (by omega)).hit (by omega) hh hq).1]
    exact ⟨s, rfl, hC, hh, fun _ _ => rfl, zk_k.rf⟩
  · rw [if_neg hh, wr_45 s (7 * p + q) rfl (by omega), Option.bind_some, rd_4 _ p rfl (by omega), Option.bind_some, rd_4 _ q rfl (by omega), Option.bind_some, zs_i_n _ _ _ _ _ (by decide : (4 : Nat) ≠ 45), (hZ.2.2.1 p (by omega)).1.1, (hZ.2.2.1 q hq).1.1, pk_mul]
    obtain ⟨s1, a1, a2, a3⟩ := ap7 (v0 := 43) (off := (7 * p + q) * 25) zd_43 zn_43 (by decide) (by omega) (hZ.2.2.1 p (by omega)).1.2 (hZ.2.2.1 q hq).1.2 (zs_i s 45 (7 * p + q) (nI (A p + A q)))
    rw [a1, zbd_some, wr_44 s1 (7 * p + q) rfl (by omega), Option.bind_some, rd_44 _ (7 * p + q) rfl (by omega), Option.bind_some, zs_i_v]
    have e45 : ∀ j, (zs_i s1 44 (7 * p + q) (nI (zfew (G p) (G q)))).1 45 j = (zs_i s 45 (7 * p + q) (nI (A p + A q))).1 45 j := fun j => by
      rw [zs_i_n _ _ _ _ _ (by decide), (a2.1 45 (by decide)).1]
    have e44 : s1.1 44 = s.1 44 := by rw [(a2.1 44 (by decide)).1, zs_i_n _ _ _ _ _ (by decide)]
    refine ⟨_, rfl, fun a b hab hb => ?_, by rw [e45, zs_i_v], fun j hj => by rw [e45, zs_i_o _ _ _ _ _ hj], ?_⟩
    · by_cases e : a = p ∧ b = q
      · obtain ⟨rfl, rfl⟩ := e
        refine CA.now (by rw [e45, zs_i_v]) (fun _ => ⟨zs_i_v _ _ _ _, fun i hi => ?_⟩)
        rw [zs_i_n _ _ _ _ _ (by decide)]
        exact a3 i hi
      · have hne : 7 * a + b ≠ 7 * p + q := by omega
        rw [e45, zs_i_o _ _ _ _ _ hne]
        refine (hC a b hab hb).mono (fun h hbn => ?_)
        obtain ⟨h1, h2⟩ := h hbn
        refine ⟨by rw [zs_i_o _ _ _ _ _ hne, e44]; exact h1, fun i hi => ?_⟩
        rw [zs_i_n _ _ _ _ _ (by decide), a2.2 _ (by omega), zs_i_n _ _ _ _ _ (by decide)]
        exact h2 i hi
    · exact ((zk_k.rf.i (by simp)).tr (a2.1.mono (by simp))).i (by simp)
theorem few7 (hZ : ZK s n G M c0 c1) (hA : JA s A B) (hC : JC1 s n G A) {p q : Nat} (hpq : p ≠ q) (hp : p < n) (hq : q < n) :
    ∃ s', f_X4_fewestOf (nI p) (nI q) s = some (nI (zc2 G p q), s') ∧ JC1 s' n G A ∧ zk_k [43, 44, 45] s s' := by
  have hn := hZ.1
  by_cases h : p < q
  · obtain ⟨s', g1, g2, -, -, g5⟩ := few7_lt hZ hA hC h hq
    refine ⟨s', ?_, g2, g5⟩
    rw [g1, zc2, if_neg hpq]
  · obtain ⟨s', g1, g2, -, -, g5⟩ := few7_lt hZ hA hC (p := q) (q := p) (by omega) hp
    refine ⟨s', ?_, g2, g5⟩
    have e : f_X4_fewestOf (nI p) (nI q) s = f_X4_fewestOf (nI q) (nI p) s := by
      unfold f_X4_fewestOf
      rw [min7 (by omega) (by omega), zbd_some, max7 (by omega) (by omega), zbd_some, min7 (by omega) (by omega), zbd_some, max7 (by omega) (by omega), zbd_some, Nat.min_comm, Nat.max_comm]
    rw [e, g1, zc2, if_neg hpq, zfew_sym]
end FEW
