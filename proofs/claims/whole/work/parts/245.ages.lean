theorem zaa_lt {A B A2 B2 : Nat → Nat} (h : ∀ j, j < 7 → A j + B j ≤ A2 j + B2 j) {p : Nat} (hp : p < 7) (hlt : A p + B p < A2 p + B2 p) : zaa A B < zaa A2 B2 := by
  have e : ∀ A B : Nat → Nat, zaa A B = 0 + (A 0 + B 0) + (A 1 + B 1) + (A 2 + B 2) + (A 3 + B 3) + (A 4 + B 4) + (A 5 + B 5) + (A 6 + B 6) := fun _ _ => rfl
  rw [e, e]
  have h0 := h 0 (by decide)
  have h1 := h 1 (by decide)
  have h2 := h 2 (by decide)
  have h3 := h 3 (by decide)
  have h4 := h 4 (by decide)
  have h5 := h 5 (by decide)
  have h6 := h 6 (by decide)
  rcases (by omega : p = 0 ∨ p = 1 ∨ p = 2 ∨ p = 3 ∨ p = 4 ∨ p = 5 ∨ p = 6) with rfl | rfl | rfl | rfl | rfl | rfl | rfl <;> omega
theorem zag_same {A A2 : Nat → Nat} {m : Nat} (h : ∀ j, j < 7 → m.testBit j = true → A2 j = A j) : zag A2 m = zag A m := zsum_congr 7 (fun j hj => by
  by_cases hb : m.testBit j = true
  · simp only [hb, if_true]; exact h j hj hb
  · simp only [hb]; rfl)
theorem zag_up {A A2 : Nat → Nat} {m p : Nat} (h : ∀ j, j < 7 → A j ≤ A2 j) (hp : p < 7) (hb : m.testBit p = true) (hlt : A p < A2 p) : zag A m < zag A2 m := by
  have e : ∀ A : Nat → Nat, zag A m = 0 + (if m.testBit 0 then A 0 else 0) + (if m.testBit 1 then A 1 else 0) + (if m.testBit 2 then A 2 else 0) + (if m.testBit 3 then A 3 else 0) + (if m.testBit 4 then A 4 else 0) + (if m.testBit 5 then A 5 else 0) + (if m.testBit 6 then A 6 else 0) := fun _ => rfl
  have hle : ∀ j, j < 7 → (if m.testBit j then A j else 0) ≤ (if m.testBit j then A2 j else 0) := fun j hj => by
    have := h j hj
    split <;> omega
  have hs : (if m.testBit p then A p else 0) < (if m.testBit p then A2 p else 0) := by rw [if_pos hb, if_pos hb]; exact hlt
  rw [e, e]
  have h0 := hle 0 (by decide)
  have h1 := hle 1 (by decide)
  have h2 := hle 2 (by decide)
  have h3 := hle 3 (by decide)
  have h4 := hle 4 (by decide)
  have h5 := hle 5 (by decide)
  have h6 := hle 6 (by decide)
  rcases (by omega : p = 0 ∨ p = 1 ∨ p = 2 ∨ p = 3 ∨ p = 4 ∨ p = 5 ∨ p = 6) with rfl | rfl | rfl | rfl | rfl | rfl | rfl <;> omega
section AGES
variable {n : Nat} {G M H D A B : Nat → Nat} {c0 c1 : List Nat} {s t : zS}
/-- a mark has changed -/
theorem JK.mark {M2 B2 : Nat → Nat} {p : Nat} (hK : JK s n G M H c0 c1 A B) (hp : p < 7) (hk : zk_k [5, 11] s t) (hZ : ZK t n G M2 c0 c1) (hA : JA t A B2) (ho : ∀ j, j ≠ p → B2 j = B j ∧ M2 j = M j) (hlt : B p < B2 p) : JK t n G M2 H c0 c1 A B2 := by
  obtain ⟨⟨hQ, h3, h4⟩, h5, h6, h7⟩ := hK
  have hz : zaa A B < zaa A B2 := zaa_lt (fun j _ => by
    by_cases e : j = p
    · subst e; omega
    · rw [(ho j e).1]; omega) hp (by omega)
  refine ⟨⟨⟨hZ, hA, hQ.2.2.1.keep hk (by decide), hQ.2.2.2.1.keep hk (by decide), fun j hj => by rw [(hk 57 (by decide)).1]; exact hQ.2.2.2.2 j hj⟩, h3.keep hk (by decide), fun a b ha hb hne => ?_⟩, ?_, ?_, ?_⟩
  · rw [(hk 54 (by decide)).1, (hk 53 (by decide)).1]
    by_cases e : a = p ∨ b = p
    · refine (h4 a b ha hb hne).up ?_
      rcases e with rfl | rfl
      · rw [(ho b (Ne.symm hne)).1]; omega
      · rw [(ho a hne).1]; omega
    · have ea : a ≠ p := fun z => e (Or.inl z)
      have eb : b ≠ p := fun z => e (Or.inr z)
      rw [(ho a ea).1, (ho b eb).1]
      refine (h4 a b ha hb hne).mono (fun h x1 x2 => ?_)
      rw [h x1 x2]
      unfold zlk
      rw [(ho a ea).2, (ho b eb).2]
  · unfold JC5
    rw [(hk 60 (by decide)).1]
    exact h5.up hz
  · unfold JC6
    rw [(hk 60 (by decide)).1]
    exact h6.up hz
  · unfold JC7
    rw [(hk 60 (by decide)).1]
    exact h7.up hz
theorem map_same {L : List Nat} {G G2 : Nat → Nat} (h : ∀ x ∈ L, G2 x = G x) : L.map G2 = L.map G := List.map_congr_left h
theorem zink_same {G G2 : Nat → Nat} {m : Nat} (h : ∀ x, x < n → m.testBit x = true → G2 x = G x) : zink n G2 m = zink n G m := by
  rw [zink_mem, zink_mem]
  congr 1
  exact List.map_congr_left (fun x hx => by
    have := (zmem_lt m n x).mp hx
    rw [h x this.1 this.2])
/-- a sign has changed -/
theorem JK.sign {G2 A2 : Nat → Nat} {p : Nat} (hK : JK s n G M H c0 c1 A B) (hp : p < 7) (hk : zk_k [4, 10] s t) (hZ : ZK t n G2 M c0 c1) (hA : JA t A2 B) (ho : ∀ j, j ≠ p → A2 j = A j ∧ G2 j = G j) (hlt : A p < A2 p) : JK t n G2 M H c0 c1 A2 B := by
  obtain ⟨⟨hQ, h3, h4⟩, h5, h6, h7⟩ := hK
  have hle : ∀ j, j < 7 → A j ≤ A2 j := fun j _ => by
    by_cases e : j = p
    · subst e; omega
    · rw [(ho j e).1]; omega
  have hz : zaa A B < zaa A2 B := zaa_lt (fun j hj => by have := hle j hj; omega) hp (by omega)
  have hmem : ∀ m, m.testBit p = false → (zmem m n).map G2 = (zmem m n).map G := fun m hb => map_same (fun x hx => (ho x (fun e => by
    have := ((zmem_lt m n x).mp hx).2
    rw [e, hb] at this
    cases this)).2)
  have hag : ∀ m, m.testBit p = false → zag A2 m = zag A m := fun m hb => zag_same (fun j _ hj => (ho j (fun e => by rw [e, hb] at hj; cases hj)).1)
  refine ⟨⟨⟨hZ, hA, fun a b hab hb => ?_, fun m h1 h2 => ?_, fun j hj => by rw [(hk 57 (by decide)).1]; exact hQ.2.2.2.2 j hj⟩, fun m h1 h2 => ?_, fun a b ha hb hne => ?_⟩, ?_, ?_, ?_⟩
  · rw [(hk 45 (by decide)).1, (hk 44 (by decide)).1, (hk 43 (by decide)).1]
    by_cases e : a = p ∨ b = p
    · refine (hQ.2.2.1 a b hab hb).up ?_
      rcases e with rfl | rfl
      · rw [(ho b (by omega)).1]; omega
      · rw [(ho a (by omega)).1]; omega
    · have ea : a ≠ p := fun z => e (Or.inl z)
      have eb : b ≠ p := fun z => e (Or.inr z)
      rw [(ho a ea).1, (ho b eb).1, (ho a ea).2, (ho b eb).2]
      exact hQ.2.2.1 a b hab hb
  · rw [(hk 48 (by decide)).1, (hk 47 (by decide)).1, (hk 49 (by decide)).1]
    cases hb : m.testBit p with
    | true => exact (hQ.2.2.2.1 m h1 h2).up (zag_up hle hp hb hlt)
    | false =>
      rw [hag m hb, hmem m hb, show zcs n G2 m = zcs n G m by unfold zcs; rw [hmem m hb]]
      exact hQ.2.2.2.1 m h1 h2
  · rw [(hk 51 (by decide)).1, (hk 50 (by decide)).1]
    cases hb : m.testBit p with
    | true => exact (h3 m h1 h2).up (zag_up hle hp hb hlt)
    | false =>
      rw [hag m hb, show zfs n G2 c0 m = zfs n G c0 m by
        unfold zfs zcs
        rw [hmem m hb, zink_same (fun x _ hx => (ho x (fun e => by rw [e, hb] at hx; cases hx)).2)]]
      exact h3 m h1 h2
  · rw [(hk 54 (by decide)).1, (hk 53 (by decide)).1]
    by_cases e : a = p ∨ b = p
    · refine (h4 a b ha hb hne).up ?_
      rcases e with rfl | rfl
      · rw [(ho b (Ne.symm hne)).1]; omega
      · rw [(ho a hne).1]; omega
    · have ea : a ≠ p := fun z => e (Or.inl z)
      have eb : b ≠ p := fun z => e (Or.inr z)
      rw [(ho a ea).1, (ho b eb).1, show zlk G2 M c1 a b = zlk G M c1 a b by unfold zlk zc2; rw [(ho a ea).2, (ho b eb).2]]
      exact h4 a b ha hb hne
  · unfold JC5
    rw [(hk 60 (by decide)).1]
    exact h5.up hz
  · unfold JC6
    rw [(hk 60 (by decide)).1]
    exact h6.up hz
  · unfold JC7
    rw [(hk 60 (by decide)).1]
    exact h7.up hz
/-- all is new -/
theorem JK.all {n2 : Nat} {G2 M2 H2 A2 B2 : Nat → Nat} {d0 d1 : List Nat} (hK : JK s n G M H c0 c1 A B) (hk : ∀ k, k ∈ [43, 44, 45, 47, 48, 49, 50, 51, 53, 54, 57, 60, 61, 62, 65, 66] → t.1 k = s.1 k) (hZ : ZK t n2 G2 M2 d0 d1) (hA : JA t A2 B2) (hlt : ∀ j, j < 7 → A j < A2 j ∧ B j ≤ B2 j) : JK t n2 G2 M2 H2 d0 d1 A2 B2 := by
  obtain ⟨⟨hQ, h3, h4⟩, h5, h6, h7⟩ := hK
  have hz : zaa A B < zaa A2 B2 := zaa_lt (fun j hj => by have := hlt j hj; omega) (p := 0) (by decide) (by have := hlt 0 (by decide); omega)
  have hbit : ∀ m, 1 ≤ m → m < 128 → zag A m < zag A2 m := fun m h1 h2 => by
    obtain ⟨j, hj, hb⟩ := bit_of (n := 7) h1 h2
    exact zag_up (fun i hi => by have := hlt i hi; omega) hj hb (hlt j hj).1
  refine ⟨⟨⟨hZ, hA, fun a b hab hb => ?_, fun m h1 h2 => ?_, fun j hj => by rw [hk 57 (by decide)]; exact hQ.2.2.2.2 j hj⟩, fun m h1 h2 => ?_, fun a b ha hb hne => ?_⟩, ?_, ?_, ?_⟩
  · rw [hk 45 (by decide)]
    exact (hQ.2.2.1 a b hab hb).up (by have := hlt a (by omega); have := hlt b hb; omega)
  · rw [hk 48 (by decide)]
    exact (hQ.2.2.2.1 m h1 h2).up (hbit m h1 h2)
  · rw [hk 51 (by decide)]
    exact (h3 m h1 h2).up (hbit m h1 h2)
  · rw [hk 54 (by decide)]
    exact (h4 a b ha hb hne).up (by have := hlt a ha; have := hlt b hb; omega)
  · unfold JC5; rw [hk 60 (by decide)]; exact h5.up hz
  · unfold JC6; rw [hk 60 (by decide)]; exact h6.up hz
  · unfold JC7; rw [hk 60 (by decide)]; exact h7.up hz
theorem setmark7 (hK : JK s n G M H c0 c1 A B) {p : Nat} (hp : p < 7) (v : Int32) {M2 : Nat → Nat} (hM2 : (p < n ∧ (∃ mv, v = nI mv ∧ mv < 10 ∧ M2 = zsg M p mv)) ∨ (n ≤ p ∧ M2 = M)) (hB : B p + 1 < 2 ^ 24) :
    ∃ s' B2, f_X5_setMark_3 (nI p) v s = some ((), s') ∧ JK s' n G M2 H c0 c1 A B2 ∧ zk_k [5, 11] s s' ∧ s'.1 5 p = v ∧ (∀ j, j ≠ p → s'.1 5 j = s.1 5 j ∧ B2 j = B j) ∧ B2 p ≤ B p + 1 ∧ B p ≤ B2 p := by
  have hZ := hK.1.1.1
  have hA := hK.1.1.2.1
  have hn := hZ.1
  rw [f_X5_setMark_3, rd_5 s p rfl hp, Option.bind_some]
  by_cases e : s.1 5 p = v
  · rw [if_pos e]
    have hMe : M2 = M := by
      rcases hM2 with ⟨hpn, mv, x1, x2, x3⟩ | ⟨-, x⟩
      · obtain ⟨-, y1, y2⟩ := hZ.2.2.1 p hpn
        rw [e, x1] at y1
        have := (nI_eq (by omega) (by omega)).mp y1
        rw [x3]
        funext j
        unfold zsg
        by_cases e2 : j = p
        · rw [if_pos e2, e2, this]
        · rw [if_neg e2]
      · exact x
    rw [hMe]
    exact ⟨s, B, rfl, hK, zk_k.rf, e, fun j _ => ⟨rfl, rfl⟩, by omega, Nat.le_refl _⟩
  · rw [if_neg e, wr_5 s p rfl hp, Option.bind_some, rd_11 _ p rfl hp, Option.bind_some, zs_i_n _ _ _ _ _ (by decide), (hA p hp).2.1, nI_1, wr_11 _ p rfl hp, Option.bind_some]
    have kk : zk_k [5, 11] s (zs_i (zs_i s 5 p v) 11 p (nI (B p + 1))) := (zk_k.rf.i (by simp)).i (by simp)
    have e5 : (zs_i (zs_i s 5 p v) 11 p (nI (B p + 1))).1 5 = (zs_i s 5 p v).1 5 := zs_i_n _ _ _ _ _ (by decide)
    have e11 : ∀ j, (zs_i (zs_i s 5 p v) 11 p (nI (B p + 1))).1 11 j = if j = p then nI (B p + 1) else s.1 11 j := fun j => by
      by_cases e2 : j = p
      · rw [if_pos e2, e2, zs_i_v]
      · rw [if_neg e2, zs_i_o _ _ _ _ _ e2, zs_i_n _ _ _ _ _ (by decide)]
    refine ⟨_, zsg B p (B p + 1), rfl, ?_, kk, by rw [e5, zs_i_v], fun j hj => ⟨by rw [e5, zs_i_o _ _ _ _ _ hj], by unfold zsg; rw [if_neg hj]⟩, by unfold zsg; rw [if_pos rfl]; exact Nat.le_refl _, by unfold zsg; rw [if_pos rfl]; omega⟩
    refine hK.mark hp kk ⟨hn, by rw [(kk 3 (by decide)).1]; exact hZ.2.1, fun j hj => ?_, by rw [(kk 3 (by decide)).1, (kk 9 (by decide)).1]; exact hZ.2.2.2.1, by rw [(kk 3 (by decide)).1, (kk 9 (by decide)).1]; exact hZ.2.2.2.2⟩ (fun j hj => ?_) (fun j hj => ?_) (by unfold zsg; rw [if_pos rfl]; omega)
    · obtain ⟨y0, y1, y2⟩ := hZ.2.2.1 j hj
      rw [(kk 4 (by decide)).1, e5]
      refine ⟨y0, ?_⟩
      by_cases e2 : j = p
      · subst e2
        rcases hM2 with ⟨-, mv, x1, x2, x3⟩ | ⟨x, -⟩
        · rw [zs_i_v, x3, x1]
          unfold zsg
          rw [if_pos rfl]
          exact ⟨rfl, x2⟩
        · omega
      · rw [zs_i_o _ _ _ _ _ e2]
        rcases hM2 with ⟨-, mv, x1, x2, x3⟩ | ⟨-, x⟩
        · rw [x3]; unfold zsg; rw [if_neg e2]; exact ⟨y1, y2⟩
        · rw [x]; exact ⟨y1, y2⟩
    · obtain ⟨y1, y2, y3, y4, y5⟩ := hA j hj
      rw [(kk 10 (by decide)).1, e11]
      unfold zsg
      by_cases e2 : j = p
      · subst e2; rw [if_pos rfl, if_pos rfl]; exact ⟨y1, rfl, y3, y4, hB⟩
      · rw [if_neg e2, if_neg e2]; exact ⟨y1, y2, y3, y4, y5⟩
    · refine ⟨by unfold zsg; rw [if_neg hj], ?_⟩
      rcases hM2 with ⟨-, mv, x1, x2, x3⟩ | ⟨-, x⟩
      · rw [x3]; unfold zsg; rw [if_neg hj]
      · rw [x]
theorem setsign7 (hK : JK s n G M H c0 c1 A B) {p : Nat} (hp : p < 7) (v : Int32) {G2 : Nat → Nat} (hG2 : (p < n ∧ (∃ g, v = nI g ∧ g < 512 ∧ G2 = zsg G p g)) ∨ (n ≤ p ∧ G2 = G)) (hB : A p + 1 < 2 ^ 24) :
    ∃ s' A2, f_X5_setSign_3 (nI p) v s = some ((), s') ∧ JK s' n G2 M H c0 c1 A2 B ∧ zk_k [4, 10] s s' ∧ s'.1 4 p = v ∧ (∀ j, j ≠ p → s'.1 4 j = s.1 4 j ∧ A2 j = A j) ∧ A2 p ≤ A p + 1 ∧ A p ≤ A2 p := by
  have hZ := hK.1.1.1
  have hA := hK.1.1.2.1
  have hn := hZ.1
  rw [f_X5_setSign_3, rd_4 s p rfl hp, Option.bind_some]
  by_cases e : s.1 4 p = v
  · rw [if_pos e]
    have hGe : G2 = G := by
      rcases hG2 with ⟨hpn, g, x1, x2, x3⟩ | ⟨-, x⟩
      · obtain ⟨⟨y1, y2⟩, -⟩ := hZ.2.2.1 p hpn
        rw [e, x1] at y1
        have := (nI_eq (by omega) (by omega)).mp y1
        rw [x3]
        funext j
        unfold zsg
        by_cases e2 : j = p
        · rw [if_pos e2, e2, this]
        · rw [if_neg e2]
      · exact x
    rw [hGe]
    exact ⟨s, A, rfl, hK, zk_k.rf, e, fun j _ => ⟨rfl, rfl⟩, by omega, Nat.le_refl _⟩
  · rw [if_neg e, wr_4 s p rfl hp, Option.bind_some, rd_10 _ p rfl hp, Option.bind_some, zs_i_n _ _ _ _ _ (by decide), (hA p hp).1, nI_1, wr_10 _ p rfl hp, Option.bind_some]
    have kk : zk_k [4, 10] s (zs_i (zs_i s 4 p v) 10 p (nI (A p + 1))) := (zk_k.rf.i (by simp)).i (by simp)
    have e5 : (zs_i (zs_i s 4 p v) 10 p (nI (A p + 1))).1 4 = (zs_i s 4 p v).1 4 := zs_i_n _ _ _ _ _ (by decide)
    have e11 : ∀ j, (zs_i (zs_i s 4 p v) 10 p (nI (A p + 1))).1 10 j = if j = p then nI (A p + 1) else s.1 10 j := fun j => by
      by_cases e2 : j = p
      · rw [if_pos e2, e2, zs_i_v]
      · rw [if_neg e2, zs_i_o _ _ _ _ _ e2, zs_i_n _ _ _ _ _ (by decide)]
    refine ⟨_, zsg A p (A p + 1), rfl, ?_, kk, by rw [e5, zs_i_v], fun j hj => ⟨by rw [e5, zs_i_o _ _ _ _ _ hj], by unfold zsg; rw [if_neg hj]⟩, by unfold zsg; rw [if_pos rfl]; exact Nat.le_refl _, by unfold zsg; rw [if_pos rfl]; omega⟩
    refine hK.sign hp kk ⟨hn, by rw [(kk 3 (by decide)).1]; exact hZ.2.1, fun j hj => ?_, by rw [(kk 3 (by decide)).1, (kk 9 (by decide)).1]; exact hZ.2.2.2.1, by rw [(kk 3 (by decide)).1, (kk 9 (by decide)).1]; exact hZ.2.2.2.2⟩ (fun j hj => ?_) (fun j hj => ?_) (by unfold zsg; rw [if_pos rfl]; omega)
    · obtain ⟨y0, y1⟩ := hZ.2.2.1 j hj
      rw [(kk 5 (by decide)).1, e5]
      refine ⟨?_, y1⟩
      by_cases e2 : j = p
      · subst e2
        rcases hG2 with ⟨-, g, x1, x2, x3⟩ | ⟨x, -⟩
        · rw [zs_i_v, x3, x1]
          unfold zsg
          rw [if_pos rfl]
          exact ⟨rfl, x2⟩
        · omega
      · rw [zs_i_o _ _ _ _ _ e2]
        rcases hG2 with ⟨-, g, x1, x2, x3⟩ | ⟨-, x⟩
        · rw [x3]; unfold zsg; rw [if_neg e2]; exact y0
        · rw [x]; exact y0
    · obtain ⟨y1, y2, y3, y4, y5⟩ := hA j hj
      rw [(kk 11 (by decide)).1, e11]
      unfold zsg
      by_cases e2 : j = p
      · subst e2; rw [if_pos rfl, if_pos rfl]; exact ⟨rfl, y2, by omega, hB, y5⟩
      · rw [if_neg e2, if_neg e2]; exact ⟨y1, y2, y3, y4, y5⟩
    · refine ⟨by unfold zsg; rw [if_neg hj], ?_⟩
      rcases hG2 with ⟨-, g, x1, x2, x3⟩ | ⟨-, x⟩
      · rw [x3]; unfold zsg; rw [if_neg hj]
      · rw [x]
end AGES
