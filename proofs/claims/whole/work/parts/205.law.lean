/-- a number kept from -1,000,000 to 1,000,000 -/
def zclamp (v : Int64) : Int32 := if (lg_cmp v (1000000 : Int64)) ≤ 0 then (if 0 ≤ (lg_cmp v (-1000000 : Int64)) then v.toInt32 else (-1000000 : Int64).toInt32) else (1000000 : Int64).toInt32
def zbt (c : Nat) (a b : Int32) : Int32 :=
  if c = 3003 then (if a = b then 1 else 0) else if c = 3004 then (if b ≤ a then 0 else 1) else if c = 3005 then (if a ≤ b then 0 else 1) else if c = 3007 then a &&& b else if c = 3008 then a ||| b
  else if c = 3000 then zclamp (a.toInt64 + b.toInt64) else if c = 3001 then zclamp (a.toInt64 - b.toInt64) else zclamp (a.toInt64 * b.toInt64)
def ze1 (k : List Int32 → List Int32) (st : List Int32) : List Int32 := match st with
  | x :: r => k ((1 - x) :: r)
  | [] => []
def ze2 (c : Nat) (k : List Int32 → List Int32) (st : List Int32) : List Int32 := match st with
  | y :: x :: r => k (zbt c x y :: r)
  | _ => []
def zev (env : Nat → Int32) : List Nat → List Int32 → List Int32
  | [], st => st
  | c :: l, st =>
    if c < 1000 then zev env l (nI c :: st)
    else if c ≤ 1006 then zev env l (env (c - 1000) :: st)
    else if c = 3006 then ze1 (zev env l) st
    else ze2 c (zev env l) st
/-- a stack in an array, and its kinds -/
def zstk (f : Nat → Int32) : List Int32 → Prop
  | [] => True
  | x :: r => f r.length = x ∧ zstk f r
def ztys : List Bool → List Int32 → Prop
  | [], [] => True
  | b :: bs, x :: xs => (b = true → x = 0 ∨ x = 1) ∧ ztys bs xs
  | _, _ => False
theorem zstk_up {f : Nat → Int32} {j : Nat} {v : Int32} : ∀ {r : List Int32}, zstk f r → r.length ≤ j → zstk (upd f j v) r := by
  intro r
  induction r with
  | nil => intro _ _; trivial
  | cons x r ih =>
    intro h hj
    simp only [List.length_cons] at hj
    exact ⟨by rw [pk_un (by omega)]; exact h.1, ih h.2 (by omega)⟩
theorem ztys_len : ∀ {bs : List Bool} {xs : List Int32}, ztys bs xs → bs.length = xs.length := by
  intro bs
  induction bs with
  | nil => intro xs h; cases xs with
    | nil => rfl
    | cons x xs => exact absurd h (by simp [ztys])
  | cons b bs ih => intro xs h; cases xs with
    | nil => exact absurd h (by simp [ztys])
    | cons x xs => simp only [List.length_cons]; rw [ih h.2]
theorem btw8 {c : Nat} (a b : Int32) (s : zS) (h : c = 3000 ∨ c = 3001 ∨ c = 3002 ∨ c = 3003 ∨ c = 3004 ∨ c = 3005 ∨ c = 3007 ∨ c = 3008) : f_X8_between (nI c) a b s = some (zbt c a b, s) := by
  have cl : ∀ w : Int64, f_X8_between_116 w s = some (zclamp w, s) := by
    intro w
    unfold f_X8_between_116 f_X8_between_146 zclamp
    split
    · split <;> rfl
    · rfl
  unfold f_X8_between f_X8_between_50 f_X8_between_61 f_X8_between_72 zbt
  simp only [cl]
  rcases h with rfl | rfl | rfl | rfl | rfl | rfl | rfl | rfl
  · rfl
  · rfl
  · rfl
  · rw [if_pos rfl, if_pos rfl]
    by_cases e : a = b
    · rw [if_neg (fun z => z e), if_pos e]
    · rw [if_pos e, if_neg e]
  · rw [if_neg (show ¬ nI 3004 = nI 3003 by decide), if_pos rfl, if_neg (show ¬ 3004 = 3003 by decide), if_pos rfl]
    by_cases e : b ≤ a
    · rw [if_pos e, if_pos e]
    · rw [if_neg e, if_neg e]
  · rw [if_neg (show ¬ nI 3005 = nI 3003 by decide), if_neg (show ¬ nI 3005 = nI 3004 by decide), if_pos rfl, if_neg (show ¬ 3005 = 3003 by decide), if_neg (show ¬ 3005 = 3004 by decide), if_pos rfl]
    by_cases e : a ≤ b
    · rw [if_pos e, if_pos e]
    · rw [if_neg e, if_neg e]
  · rfl
  · rfl
theorem btw_ty (c : Nat) (a b : Int32) (h : (c = 3003 ∨ c = 3004 ∨ c = 3005) ∨ ((c = 3007 ∨ c = 3008) ∧ (a = 0 ∨ a = 1) ∧ (b = 0 ∨ b = 1))) : zbt c a b = 0 ∨ zbt c a b = 1 := by
  unfold zbt
  rcases h with (rfl | rfl | rfl) | ⟨rfl | rfl, ha, hb⟩
  · rw [if_pos rfl]; split <;> simp
  · rw [if_neg (by decide), if_pos rfl]; split <;> simp
  · rw [if_neg (by decide), if_neg (by decide), if_pos rfl]; split <;> simp
  · rcases ha with rfl | rfl <;> rcases hb with rfl | rfl <;> decide
  · rcases ha with rfl | rfl <;> rcases hb with rfl | rfl <;> decide
theorem zword_cases {w c : Nat} (h : zword w c = true) : c < 1000 ∨ (1000 ≤ c ∧ c ≤ 1006) := by
  unfold zword at h
  by_cases hw : w = 0
  · simp [hw] at h; omega
  · simp [hw] at h; omega
theorem r85_0 (s : zS) : zr_i s 85 (0 : Int32) = some (s.1 85 0) := rd_85 s 0 rfl (by decide)
/-- the reference reckons a law -/
theorem reck8_loop {w m F : Nat} {cs : List Nat} {env : Nat → Int32} (hw : w < 2) (hF : F + cs.length ≤ 900) : ∀ (l : List Nat) (i n : Nat) (st : List Int32) (tl : List Bool) (b : Bool) (s : zS),
    (s.1 77 (4 + w) = nI F ∧ s.1 77 (6 + w) = nI cs.length ∧ ∀ i, i < cs.length → s.1 77 (255 + F + i) = nI (cs.getD i 0)) → (∀ k, zword w (1000 + k) = true → s.1 86 k = env k) →
    cs.drop i = l → i + l.length = cs.length → l.length < n → zty w l tl = some [b] → ztys tl st → zstk (s.1 85) st → st.length ≤ 32 →
    ∃ (v : Int32) (s' : zS), f_X8_reckons_4 n (nI w) (nI st.length) (nI i) s = some (v, s') ∧ zk_k [85] s s' ∧ zev env l st = [v] ∧ (b = true → v = 0 ∨ v = 1) := by
  intro l
  induction l with
  | nil =>
    intro i n st tl b s hs henv hd hi hn ht hty hk hl
    obtain ⟨n, rfl⟩ : ∃ q, n = q + 1 := ⟨n - 1, by simp at hn; omega⟩
    simp only [zty, Option.some.injEq] at ht
    subst ht
    cases st with
    | nil => exact absurd hty (by simp [ztys])
    | cons v st =>
      cases st with
      | cons y st => exact absurd hty.2 (by simp [ztys])
      | nil =>
        simp only [List.length_nil] at hi
        rw [f_X8_reckons_4, nI_add, rd_77 s (6 + w) rfl (by omega), Option.bind_some, hs.2.1, if_pos (nI_le (by omega) (by omega)), r85_0, Option.bind_some]
        have e : s.1 85 0 = v := hk.1
        rw [e]
        exact ⟨v, s, rfl, zk_k.rf, rfl, hty.1⟩
  | cons c l ih =>
    intro i n st tl b s hs henv hd hi hn ht hty hk hl
    simp only [List.length_cons] at hi hn
    obtain ⟨n, rfl⟩ : ∃ q, n = q + 1 := ⟨n - 1, by omega⟩
    have hc : cs.getD i 0 = c := by
      have : (cs.drop i)[0]? = some c := by rw [hd]; rfl
      rw [List.getElem?_drop] at this
      rw [List.getD_eq_getElem?_getD]
      simp only [Nat.add_zero] at this
      rw [this]; rfl
    have hd2 : cs.drop (i + 1) = l := by
      rw [← List.drop_drop, hd]; rfl
    have head : f_X8_reckons_4 (n + 1) (nI w) (nI st.length) (nI i) s = (if (nI 3000) ≤ nI c then
        (if ¬ nI c = (nI 3006) then
        (zb (nI st.length + (-1 : Int32)) fun x8 => (zr_i s 85 (x8 - (1 : Int32))).bind fun x9 => (zr_i s 85 x8).bind fun x10 => zbd (f_X8_between (nI c) x9 x10 s) fun r11 s12 => (zw_i s12 85 (x8 - (1 : Int32)) r11).bind fun s13 => f_X8_reckons_141 (f_X8_reckons_4 n) (nI w) x8 (nI i) s13)
        else
        (zr_i s 85 (nI st.length - (1 : Int32))).bind fun x14 => (zw_i s 85 (nI st.length - (1 : Int32)) ((1 : Int32) - x14)).bind fun s15 => f_X8_reckons_141 (f_X8_reckons_4 n) (nI w) (nI st.length) (nI i) s15)
        else
        if (nI 1000) ≤ nI c then
        ((zr_i s 86 (nI c - (nI 1000))).bind fun x16 => f_X8_reckons_75 (f_X8_reckons_4 n) (nI w) (nI st.length) (nI i) x16 (nI st.length) s)
        else
        f_X8_reckons_75 (f_X8_reckons_4 n) (nI w) (nI st.length) (nI i) (nI c) (nI st.length) s) := by
      rw [f_X8_reckons_4, nI_add, rd_77 s (6 + w) rfl (by omega), Option.bind_some, hs.2.1, if_neg (nI_ge (by omega) (by omega)), nI_add, rd_77 s (4 + w) rfl (by omega), Option.bind_some, hs.1, nI_add, nI_add, rd_77 s (255 + F + i) rfl (by omega), Option.bind_some, hs.2.2 i (by omega), hc]
    rw [head]
    have keep : ∀ (j : Nat) (v : Int32), (((zs_i s 85 j v).1 77 (4 + w) = nI F ∧ (zs_i s 85 j v).1 77 (6 + w) = nI cs.length ∧ ∀ i, i < cs.length → (zs_i s 85 j v).1 77 (255 + F + i) = nI (cs.getD i 0)) ∧ ∀ k, zword w (1000 + k) = true → (zs_i s 85 j v).1 86 k = env k) := by
      intro j v
      rw [zs_i_n _ _ _ _ _ (by decide : (77 : Nat) ≠ 85), zs_i_n _ _ _ _ _ (by decide : (86 : Nat) ≠ 85)]
      exact ⟨hs, henv⟩
    -- a value is pushed
    have push : ∀ (x : Int32), zty w l (false :: tl) = some [b] → st.length < 32 → ∃ (v : Int32) (s' : zS), f_X8_reckons_75 (f_X8_reckons_4 n) (nI w) (nI st.length) (nI i) x (nI st.length) s = some (v, s') ∧ zk_k [85] s s' ∧ zev env l (x :: st) = [v] ∧ (b = true → v = 0 ∨ v = 1) := by
      intro x ht2 hl2
      rw [f_X8_reckons_75, wr_85 s st.length rfl (by omega), Option.bind_some, zb_eq, f_X8_reckons_141, zb_eq, nI_1, nI_1]
      obtain ⟨k1, k2⟩ := keep st.length x
      obtain ⟨v, s', g1, g2, g3⟩ := ih (i + 1) n (x :: st) (false :: tl) b (zs_i s 85 st.length x) k1 k2 hd2 (by omega) (by omega) ht2 ⟨by simp, hty⟩ ⟨by rw [zs_i_v], by
        rw [zs_i_at]; exact zstk_up hk (Nat.le_refl _)⟩ (by simp only [List.length_cons]; omega)
      exact ⟨v, s', g1, (zk_k.rf.i (by simp)).tr g2, g3⟩
    rw [zty] at ht
    by_cases hwd : zword w c = true
    · rw [if_pos hwd] at ht
      have hlen := ztys_len hty
      by_cases hl2 : tl.length < 32
      · rw [if_pos hl2] at ht
        rcases zword_cases hwd with h1 | ⟨h1, h2⟩
        · rw [if_neg (nI_ge (by omega) (by omega)), if_neg (nI_ge (by omega) (by omega)), zev, if_pos h1]
          exact push (nI c) ht (by omega)
        · rw [if_neg (nI_ge (by omega) (by omega)), if_pos (nI_le (by omega) (by omega)), pk_sub (by omega), rd_86 s (c - 1000) rfl (by omega), Option.bind_some, zev, if_neg (by omega), if_pos (by omega), henv (c - 1000) (by rw [show 1000 + (c - 1000) = c by omega]; exact hwd)]
          exact push _ ht (by omega)
      · rw [if_neg hl2] at ht; cases ht
    rw [if_neg hwd] at ht
    by_cases h6 : c = 3006
    · subst h6
      rw [if_pos rfl] at ht
      rw [if_pos (nI_le (by omega) (by omega)), if_neg (fun z => z rfl), zev, if_neg (by decide), if_neg (by decide), if_pos rfl]
      obtain ⟨tl, rfl, ht⟩ := zt1_some ht
      cases st with
      | nil => exact absurd hty (by simp [ztys])
      | cons x st =>
        simp only [List.length_cons] at hl ⊢
        have e1 : nI (st.length + 1) - (1 : Int32) = nI st.length := nI_pred _
        rw [e1, rd_85 s st.length rfl (by omega), Option.bind_some, hk.1, wr_85 s st.length rfl (by omega), Option.bind_some, f_X8_reckons_141, zb_eq, nI_1]
        obtain ⟨k1, k2⟩ := keep st.length (1 - x)
        obtain ⟨v, s', g1, g2, g3⟩ := ih (i + 1) n ((1 - x) :: st) (true :: tl) b (zs_i s 85 st.length (1 - x)) k1 k2 hd2 (by omega) (by omega) ht ⟨fun _ => by
          rcases hty.1 rfl with e | e <;> rw [e] <;> decide, hty.2⟩ ⟨by rw [zs_i_v], by rw [zs_i_at]; exact zstk_up hk.2 (Nat.le_refl _)⟩ (by simp only [List.length_cons]; omega)
        exact ⟨v, s', g1, (zk_k.rf.i (by simp)).tr g2, g3⟩
    rw [if_neg h6] at ht
    -- two values become one
    have two : ∀ (x y : Int32) (r : List Int32) (t : Bool) (tr : List Bool), st = y :: x :: r → zty w l (t :: tr) = some [b] → ztys tr r → (t = true → zbt c x y = 0 ∨ zbt c x y = 1) → (c = 3000 ∨ c = 3001 ∨ c = 3002 ∨ c = 3003 ∨ c = 3004 ∨ c = 3005 ∨ c = 3007 ∨ c = 3008) →
        ∃ (v : Int32) (s' : zS), (if (nI 3000) ≤ nI c then
        (if ¬ nI c = (nI 3006) then
        (zb (nI st.length + (-1 : Int32)) fun x8 => (zr_i s 85 (x8 - (1 : Int32))).bind fun x9 => (zr_i s 85 x8).bind fun x10 => zbd (f_X8_between (nI c) x9 x10 s) fun r11 s12 => (zw_i s12 85 (x8 - (1 : Int32)) r11).bind fun s13 => f_X8_reckons_141 (f_X8_reckons_4 n) (nI w) x8 (nI i) s13)
        else
        (zr_i s 85 (nI st.length - (1 : Int32))).bind fun x14 => (zw_i s 85 (nI st.length - (1 : Int32)) ((1 : Int32) - x14)).bind fun s15 => f_X8_reckons_141 (f_X8_reckons_4 n) (nI w) (nI st.length) (nI i) s15)
        else
        if (nI 1000) ≤ nI c then
        ((zr_i s 86 (nI c - (nI 1000))).bind fun x16 => f_X8_reckons_75 (f_X8_reckons_4 n) (nI w) (nI st.length) (nI i) x16 (nI st.length) s)
        else
        f_X8_reckons_75 (f_X8_reckons_4 n) (nI w) (nI st.length) (nI i) (nI c) (nI st.length) s) = some (v, s') ∧ zk_k [85] s s' ∧ zev env (c :: l) st = [v] ∧ (b = true → v = 0 ∨ v = 1) := by
      intro x y r t tr hst ht2 hty2 hv hcc
      have hcr : 3000 ≤ c ∧ c ≤ 3008 := by omega
      subst hst
      simp only [List.length_cons] at hl ⊢
      have e1 : nI (r.length + 1 + 1) + (-1 : Int32) = nI (r.length + 1) := pk_m1 _
      have e2 : nI (r.length + 1) - (1 : Int32) = nI r.length := nI_pred _
      rw [if_pos (nI_le (by omega) (by omega)), if_pos (ne_of_nI h6 (by omega) (by omega)), zb_eq, e1, e2, rd_85 s r.length rfl (by omega), Option.bind_some, rd_85 s (r.length + 1) rfl (by omega), Option.bind_some, hk.2.1, show s.1 85 (r.length + 1) = y from hk.1, btw8 x y s hcc, zbd_some, wr_85 s r.length rfl (by omega), Option.bind_some, f_X8_reckons_141, zb_eq, nI_1]
      obtain ⟨k1, k2⟩ := keep r.length (zbt c x y)
      obtain ⟨v, s', g1, g2, g3⟩ := ih (i + 1) n (zbt c x y :: r) (t :: tr) b (zs_i s 85 r.length (zbt c x y)) k1 k2 hd2 (by omega) (by omega) ht2 ⟨hv, hty2⟩ ⟨by rw [zs_i_v], by rw [zs_i_at]; exact zstk_up hk.2.2 (Nat.le_refl _)⟩ (by simp only [List.length_cons]; omega)
      refine ⟨v, s', g1, (zk_k.rf.i (by simp)).tr g2, ?_⟩
      rw [zev, if_neg (by omega), if_neg (by omega), if_neg h6]
      exact g3
    have shape : ∀ (t1 t2 : Bool) (tr : List Bool), tl = t1 :: t2 :: tr → ∃ x y r, st = y :: x :: r ∧ (t1 = true → y = 0 ∨ y = 1) ∧ (t2 = true → x = 0 ∨ x = 1) ∧ ztys tr r := by
      intro t1 t2 tr e
      subst e
      cases st with
      | nil => exact absurd hty (by simp [ztys])
      | cons y st =>
        cases st with
        | nil => exact absurd hty.2 (by simp [ztys])
        | cons x r => exact ⟨x, y, r, rfl, hty.1, hty.2.1, hty.2.2⟩
    by_cases hA : c = 3000 ∨ c = 3001 ∨ c = 3002
    · rw [if_pos hA] at ht
      obtain ⟨tr, etl, ht⟩ := zt2_some ht
      obtain ⟨x, y, r, e, -, -, q3⟩ := shape _ _ _ etl
      exact two x y r false tr e ht q3 (by simp) (by omega)
    rw [if_neg hA] at ht
    by_cases hB : c = 3003 ∨ c = 3004 ∨ c = 3005
    · rw [if_pos hB] at ht
      obtain ⟨tr, etl, ht⟩ := zt2_some ht
      obtain ⟨x, y, r, e, -, -, q3⟩ := shape _ _ _ etl
      exact two x y r true tr e ht q3 (fun _ => btw_ty c x y (Or.inl hB)) (by omega)
    rw [if_neg hB] at ht
    by_cases hC : c = 3007 ∨ c = 3008
    · rw [if_pos hC] at ht
      obtain ⟨tr, etl, ht⟩ := zt2_some ht
      obtain ⟨x, y, r, e, q1, q2, q3⟩ := shape _ _ _ etl
      exact two x y r true tr e ht q3 (fun _ => btw_ty c x y (Or.inr ⟨hC, q2 rfl, q1 rfl⟩)) (by omega)
    rw [if_neg hC] at ht
    cases ht
