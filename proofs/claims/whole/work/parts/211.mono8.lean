theorem gd_lt {α : Type} (l : List α) (x d : α) {i : Nat} (h : i < l.length) : (l ++ [x]).getD i d = l.getD i d := by
  rw [List.getD_eq_getElem?_getD, List.getD_eq_getElem?_getD, List.getElem?_append_left h]
theorem gd_eq {α : Type} (l : List α) (x d : α) : (l ++ [x]).getD l.length d = x := by
  rw [List.getD_eq_getElem?_getD, List.getElem?_append_right (Nat.le_refl _), Nat.sub_self]; rfl
theorem gd_drop {α : Type} {l r : List α} {x d : α} {i : Nat} (h : l.drop i = x :: r) : l.getD i d = x := by
  have : (l.drop i)[0]? = some x := by rw [h]; rfl
  rw [List.getElem?_drop] at this
  rw [List.getD_eq_getElem?_getD]
  simp only [Nat.add_zero] at this
  rw [this]; rfl
theorem gd_map {α β : Type} (f : α → β) (l : List α) (d : α) (e : β) {i : Nat} (h : i < l.length) : (l.map f).getD i e = f (l.getD i d) := by
  rw [List.getD_eq_getElem?_getD, List.getD_eq_getElem?_getD, List.getElem?_map, List.getElem?_eq_getElem h]; rfl
theorem gd_app {α : Type} (l r : List α) (x d : α) : (l ++ x :: r).getD l.length d = x := by
  rw [List.getD_eq_getElem?_getD, List.getElem?_append_right (Nat.le_refl _), Nat.sub_self]; rfl
/-- crossings of one more sign with those laid -/
def zadd : List (Nat × Nat) → Nat → Nat → Nat
  | [], _, _ => 0
  | x :: l, b, t => zcr x.1 x.2 b t + zadd l b t
theorem zadd_le (b t : Nat) : ∀ l, zadd l b t ≤ 81 * l.length := by
  intro l
  induction l with
  | nil => exact Nat.le_refl _
  | cons x l ih =>
    have := zap_le x.1 b (12 + zPL t - zPL x.2)
    show zap x.1 b (12 + zPL t - zPL x.2) + zadd l b t ≤ 81 * (l.length + 1)
    omega
/-- all shifts from the first on; what is found, and the fewest -/
def zgo : List Nat → List (Nat × Nat) → Nat → Nat × List Nat → Nat × List Nat
  | [], pre, cross, st => if st.1 ≤ cross then st else (cross, pre.map Prod.snd)
  | b :: rest, pre, cross, st => if st.1 ≤ cross then st else zfd (fun t st => zgo rest (pre ++ [(b, t)]) (cross + zadd pre b t) st) 9 0 st
def ZS8 (s : zS) (L : List Nat) : Prop := s.1 76 20 = nI L.length ∧ L.length ≤ 4 ∧ ∀ i, i < L.length → ∀ t, t < 9 → s.1 83 (9 * i + t) = nI (zshf (L.getD i 0) t 9)
def ZP8 (s : zS) (L : List Nat) (pre : List (Nat × Nat)) : Prop := ∀ i, i < pre.length → s.1 82 i = nI (pre.getD i (0, 0)).2 ∧ (pre.getD i (0, 0)).2 < 9 ∧ (pre.getD i (0, 0)).1 = L.getD i 0
def ZR8 (s : zS) (st : Nat × List Nat) : Prop := s.1 76 21 = nI st.1 ∧ st.1 < 2 ^ 31 ∧ st.2.length ≤ 4 ∧ ∀ i, i < st.2.length → s.1 84 i = nI (st.2.getD i 0)
def ZF8 (k : Nat) (s t : zS) : Prop := zk_k [76, 82, 84] s t ∧ (∀ j, j ≠ 21 → t.1 76 j = s.1 76 j) ∧ ∀ i, i < k → t.1 82 i = s.1 82 i
theorem ZF8.tr {k : Nat} {s t u : zS} (h1 : ZF8 k s t) (h2 : ZF8 k t u) : ZF8 k s u := ⟨h1.1.tr h2.1, fun j hj => (h2.2.1 j hj).trans (h1.2.1 j hj), fun i hi => (h2.2.2 i hi).trans (h1.2.2 i hi)⟩
theorem ZF8.less {k m : Nat} {s t : zS} (h : ZF8 k s t) (hm : m ≤ k) : ZF8 m s t := ⟨h.1, h.2.1, fun i hi => h.2.2 i (by omega)⟩
theorem ZS8.keep {k : Nat} {s t : zS} {L : List Nat} (h : ZS8 s L) (hf : ZF8 k s t) : ZS8 t L := by
  refine ⟨by rw [hf.2.1 20 (by decide)]; exact h.1, h.2.1, fun i hi q hq => ?_⟩
  rw [(hf.1 83 (by decide)).1]
  exact h.2.2 i hi q hq
theorem ZP8.keep {k : Nat} {s t : zS} {L : List Nat} {pre : List (Nat × Nat)} (h : ZP8 s L pre) (hf : ZF8 k s t) (hk : pre.length ≤ k) : ZP8 t L pre := fun i hi => by
  rw [hf.2.2 i (by omega)]
  exact h i hi
theorem go8_24 (q : Int32 → Int32 → zS → Option (Unit × zS)) : ∀ (j i n : Nat) (s : zS), i + j = 4 → j < n → (∀ m, m < i → s.1 84 m = s.1 82 m) → ∃ s', f_X8_goesShift_24 q n (nI i) s = some ((), s') ∧ zk_k [84] s s' ∧ ∀ m, m < 4 → s'.1 84 m = s.1 82 m := by
  intro j
  induction j with
  | zero =>
    intro i n s hi hn hm
    obtain ⟨n, rfl⟩ : ∃ q, n = q + 1 := ⟨n - 1, by omega⟩
    rw [f_X8_goesShift_24, if_pos (nI_le (by omega) (by omega))]
    exact ⟨s, rfl, zk_k.rf, fun m h4 => hm m (by omega)⟩
  | succ j ih =>
    intro i n s hi hn hm
    obtain ⟨n, rfl⟩ : ∃ q, n = q + 1 := ⟨n - 1, by omega⟩
    rw [f_X8_goesShift_24, if_neg (nI_ge (by omega) (by omega)), rd_82 s i rfl (by omega), Option.bind_some, wr_84 s i rfl (by omega), Option.bind_some, zb_eq, nI_1]
    obtain ⟨s', g1, g2, g3⟩ := ih (i + 1) n (zs_i s 84 i (s.1 82 i)) (by omega) (by omega) (fun m hm2 => by
      rw [zs_i_n _ _ _ _ _ (by decide : (82 : Nat) ≠ 84)]
      by_cases e : m = i
      · subst e; rw [zs_i_v]
      · rw [zs_i_o _ _ _ _ _ e]; exact hm m (by omega))
    refine ⟨s', g1, (zk_k.rf.i (by simp)).tr g2, fun m hm => ?_⟩
    rw [g3 m hm, zs_i_n _ _ _ _ _ (by decide : (82 : Nat) ≠ 84)]
theorem go8_69 (q : Int32 → Int32 → zS → Option (Unit × zS)) (kb : Int32 → Int32 → Int32 → zS → Option (Unit × zS)) {L : List Nat} {pre : List (Nat × Nat)} {b t : Nat} {s : zS} {cross : Int32} (hs : ZS8 s L) (hp : ZP8 s L pre) (hl : pre.length < L.length) (hb : L.getD pre.length 0 = b) (ht : t < 9) :
    ∀ (l : List (Nat × Nat)) (i n v : Nat), pre.drop i = l → i + l.length = pre.length → l.length < n → f_X8_goesShift_69 q kb n (nI pre.length) cross (nI t) (nI v) (nI i) s = zbd (q (nI (pre.length + 1)) (nI (v + zadd l b t)) s) fun _ s1 => kb (nI pre.length) cross (nI (t + 1)) s1 := by
  have h4 := hs.2.1
  intro l
  induction l with
  | nil =>
    intro i n v hd hi hn
    simp only [List.length_nil] at hi hn
    obtain ⟨n, rfl⟩ : ∃ q, n = q + 1 := ⟨n - 1, by omega⟩
    rw [f_X8_goesShift_69, if_pos (nI_le (by omega) (by omega)), nI_1]
    simp only [zb_eq, nI_1]
    rfl
  | cons x l ih =>
    intro i n v hd hi hn
    simp only [List.length_cons] at hi hn
    obtain ⟨n, rfl⟩ : ∃ q, n = q + 1 := ⟨n - 1, by omega⟩
    obtain ⟨p1, p2, p3⟩ := hp i (by omega)
    rw [gd_drop hd] at p1 p2 p3
    rw [f_X8_goesShift_69, if_neg (nI_ge (by omega) (by omega)), rd_82 s i rfl (by omega), Option.bind_some, p1, pk_mul, nI_add, rd_83 s (9 * i + x.2) rfl (by omega), Option.bind_some, pk_mul, nI_add, rd_83 s (9 * pre.length + t) rfl (by omega), Option.bind_some, hs.2.2 i (by omega) x.2 p2, hs.2.2 pre.length hl t ht, ← p3, hb, nI_and, bits_ok (by
      have h1 := zshf_lt x.1 x.2 p2 9 (by decide)
      exact Nat.lt_of_le_of_lt Nat.and_le_left (by omega)), zbd_some, zcr_bits x.1 b p2 ht, zb_eq, zb_eq, nI_add, nI_1, ih (i + 1) n (v + zcr x.1 x.2 b t) (by rw [← List.drop_drop, hd]; rfl) (by omega) (by omega), Nat.add_assoc]
    rfl
theorem go8 {L : List Nat} : ∀ (rest : List Nat) (pre : List (Nat × Nat)) (cross : Nat) (st : Nat × List Nat) (s : zS) (d : Nat), L.length = pre.length + rest.length → L.drop pre.length = rest → rest.length < d → cross ≤ 324 * pre.length → ZS8 s L → ZP8 s L pre → ZR8 s st →
    ∃ s', f_X8_goesShift d (nI pre.length) (nI cross) s = some ((), s') ∧ ZR8 s' (zgo rest pre cross st) ∧ ZF8 pre.length s s' := by
  intro rest
  induction rest with
  | nil =>
    intro pre cross st s d hL hdr hd hc hs hp hr
    obtain ⟨d, rfl⟩ : ∃ q, d = q + 1 := ⟨d - 1, by simp at hd; omega⟩
    have h4 := hs.2.1
    simp only [List.length_nil, Nat.add_zero] at hL
    rw [f_X8_goesShift, g_X8_goesShift, hr.1, zgo]
    by_cases hlt : st.1 ≤ cross
    · rw [if_neg (nI_nlt hlt (by omega)), if_pos hlt]
      exact ⟨s, rfl, hr, zk_k.rf, fun _ _ => rfl, fun _ _ => rfl⟩
    · rw [if_pos (nI_lt (by omega) hr.2.1), if_neg hlt, hs.1, hL, if_neg (fun z => z rfl), zb_eq]
      obtain ⟨s', g1, g2, g3⟩ := go8_24 (f_X8_goesShift d) 4 0 zFU (zs_i s 76 21 (nI cross)) (by decide) (by decide) (fun m hm => by omega)
      refine ⟨s', g1, ⟨?_, by show cross < 2 ^ 31; omega, by show (pre.map Prod.snd).length ≤ 4; rw [List.length_map]; omega, fun i hi => ?_⟩, (zk_k.rf.i (by simp)).tr (g2.mono (by simp)), fun j hj => ?_, fun i hi => ?_⟩
      · rw [(g2 76 (by decide)).1, zs_i_v]
      · simp only [List.length_map] at hi
        show s'.1 84 i = nI ((pre.map Prod.snd).getD i 0)
        rw [g3 i (by omega), zs_i_n _ _ _ _ _ (by decide), (hp i hi).1, gd_map Prod.snd pre (0, 0) 0 hi]
      · rw [(g2 76 (by decide)).1, zs_i_o _ _ _ _ _ hj]
      · rw [(g2 82 (by decide)).1, zs_i_n _ _ _ _ _ (by decide)]
  | cons b rest ih =>
    intro pre cross st s d hL hdr hd hc hs hp hr
    simp only [List.length_cons] at hL hd
    obtain ⟨d, rfl⟩ : ∃ q, d = q + 1 := ⟨d - 1, by omega⟩
    have h4 := hs.2.1
    rw [f_X8_goesShift, g_X8_goesShift, hr.1, zgo]
    by_cases hlt : st.1 ≤ cross
    · rw [if_neg (nI_nlt hlt (by omega)), if_pos hlt]
      exact ⟨s, rfl, hr, zk_k.rf, fun _ _ => rfl, fun _ _ => rfl⟩
    rw [if_pos (nI_lt (by omega) hr.2.1), if_neg hlt, hs.1, if_pos (ne_of_nI (by omega) (by omega) (by omega))]
    have hb : L.getD pre.length 0 = b := gd_drop hdr
    have loop : ∀ (j t n : Nat) (st : Nat × List Nat) (s : zS), t + j = 9 → j < n → ZS8 s L → ZP8 s L pre → ZR8 s st → ∃ s', f_X8_goesShift_50 (f_X8_goesShift d) n (nI pre.length) (nI cross) (nI t) s = some ((), s') ∧ ZR8 s' (zfd (fun t st => zgo rest (pre ++ [(b, t)]) (cross + zadd pre b t) st) j t st) ∧ ZF8 pre.length s s' := by
      intro j
      induction j with
      | zero =>
        intro t n st s ht hn hs hp hr
        obtain ⟨n, rfl⟩ : ∃ q, n = q + 1 := ⟨n - 1, by omega⟩
        rw [f_X8_goesShift_50, if_pos (nI_le (by omega) (by omega))]
        exact ⟨s, rfl, hr, zk_k.rf, fun _ _ => rfl, fun _ _ => rfl⟩
      | succ j ihj =>
        intro t n st s ht hn hs hp hr
        obtain ⟨n, rfl⟩ : ∃ q, n = q + 1 := ⟨n - 1, by omega⟩
        have f1 : ZF8 pre.length s (zs_i s 82 pre.length (nI t)) := ⟨zk_k.rf.i (by simp), fun j _ => by rw [zs_i_n _ _ _ _ _ (by decide)], fun i hi => zs_i_o _ _ _ _ _ (by omega)⟩
        have hs1 := hs.keep f1
        have hp1 := hp.keep f1 (Nat.le_refl _)
        have hr1 : ZR8 (zs_i s 82 pre.length (nI t)) st := by
          unfold ZR8
          rw [zs_i_n _ _ _ _ _ (by decide : (76 : Nat) ≠ 82), zs_i_n _ _ _ _ _ (by decide : (84 : Nat) ≠ 82)]
          exact hr
        rw [f_X8_goesShift_50, if_neg (nI_ge (by omega) (by omega)), wr_82 s pre.length rfl (by omega), Option.bind_some, ← nI_0, go8_69 (f_X8_goesShift d) (f_X8_goesShift_50 (f_X8_goesShift d) n) (b := b) (t := t) hs1 hp1 (by omega) hb (by omega) pre 0 zFU cross rfl (by omega) (by show pre.length < 5000; omega)]
        have hlen : (pre ++ [(b, t)]).length = pre.length + 1 := by simp
        have hp2 : ZP8 (zs_i s 82 pre.length (nI t)) L (pre ++ [(b, t)]) := fun i hi => by
          rw [hlen] at hi
          by_cases e : i = pre.length
          · subst e
            rw [gd_eq, zs_i_v]
            exact ⟨rfl, by show t < 9; omega, hb.symm⟩
          · rw [gd_lt _ _ _ (by omega)]
            exact hp1 i (by omega)
        have hz := zadd_le b t pre
        have hpl : pre.length ≤ 4 := by omega
        obtain ⟨s2, a1, a2, a3⟩ := ih (pre ++ [(b, t)]) (cross + zadd pre b t) st _ d (by rw [hlen]; omega) (by rw [hlen, ← List.drop_drop, hdr]; rfl) (by omega) (by rw [hlen]; omega) hs1 hp2 hr1
        rw [hlen] at a1 a3
        rw [a1, zbd_some]
        have f2 := f1.tr (a3.less (by omega))
        obtain ⟨s3, b1, b2, b3⟩ := ihj (t + 1) n _ s2 (by omega) (by omega) (hs.keep f2) (hp.keep f2 (Nat.le_refl _)) a2
        exact ⟨s3, b1, b2, f2.tr b3⟩
    exact loop 9 0 zFU st s (by decide) (by decide) hs hp hr
/-- the fewest crossings of some signs, and their shifts -/
def zmono (L : List Nat) : Nat × List Nat := zgo L [] 0 (268435456, [])
theorem zfd_P {A : Type} {g : Nat → A → A} (P : A → Prop) : ∀ (k i : Nat) (a : A), (∀ j b, P b → P (g j b)) → P a → P (zfd g k i a) := by
  intro k
  induction k with
  | zero => intro i a _ h; exact h
  | succ k ih => intro i a hg h; exact ih (i + 1) _ hg (hg i a h)
theorem zgo_lt {X : Nat} : ∀ (rest : List Nat) (pre : List (Nat × Nat)) (cross : Nat) (st : Nat × List Nat), st.1 < X → (zgo rest pre cross st).1 < X := by
  intro rest
  induction rest with
  | nil =>
    intro pre cross st h
    rw [zgo]
    split
    · exact h
    · show cross < X; omega
  | cons b rest ih =>
    intro pre cross st h
    rw [zgo]
    split
    · exact h
    · exact zfd_P (fun st => st.1 < X) 9 0 st (fun j st h => ih _ _ st h) h
theorem shf8_loop {a t : Nat} (ha : a < 512) (ht : t < 9) (s : zS) : ∀ (j c n : Nat), c + j = 9 → j < n → f_X8_shifted_4 n (nI a) (nI t) (nI (zshf a t c)) (nI c) s = some (nI (zshf a t 9), s) := by
  intro j
  induction j with
  | zero =>
    intro c n hc hn
    obtain ⟨n, rfl⟩ : ∃ q, n = q + 1 := ⟨n - 1, by omega⟩
    have : c = 9 := by omega
    subst this
    rw [f_X8_shifted_4, if_pos (nI_le (by omega) (by omega))]
  | succ j ih =>
    intro c n hc hn
    obtain ⟨n, rfl⟩ : ∃ q, n = q + 1 := ⟨n - 1, by omega⟩
    have h1 := zPL_12 c (by omega)
    have h2 := zPL_12 t ht
    have ih := ih (c + 1) n (by omega) (by omega)
    rw [zshf] at ih
    rw [f_X8_shifted_4, if_neg (nI_ge (by omega) (by omega)), in_ok s (by omega) (by omega), zbd_some]
    by_cases hb : a.testBit c = true
    · rw [if_pos ((zbit_eq1 a c).mpr hb)] at ih
      rw [if_pos hb, if_neg (by decide), zb_eq, pk_div (by omega) (by omega) (by omega), pk_div (by omega) (by omega) (by omega), nI_add, pk_mul, show zo_rem (nI c) (nI 3) = nI (c % 3) from pk_rem (by omega) (by omega) (by omega), show zo_rem (nI t) (nI 3) = nI (t % 3) from pk_rem (by omega) (by omega) (by omega), nI_add, nI_add, show 5 * (c / 3 + t / 3) + c % 3 + t % 3 = zPL c + zPL t by unfold zPL; omega, one_shl30 _ (by omega), nI_or, f_X8_shifted_41, zb_eq, nI_1]
      exact ih
    · rw [if_neg (fun z => hb ((zbit_eq1 a c).mp z))] at ih
      rw [if_neg hb, if_pos rfl, f_X8_shifted_41, zb_eq, nI_1]
      exact ih
theorem shf8 {a t : Nat} (ha : a < 512) (ht : t < 9) (s : zS) : f_X8_shifted (nI a) (nI t) s = some (nI (zshf a t 9), s) := shf8_loop ha ht s 9 0 zFU (by decide) (by decide)
theorem lm8_12 {L : List Nat} (kb : Int32 → zS → Option (Int32 × zS)) {i : Nat} (hi : i < L.length) (h4 : L.length ≤ 4) (hL : L.getD i 0 < 512) : ∀ (j t n : Nat) (s : zS), t + j = 9 → j < n → s.1 81 i = nI (L.getD i 0) → ∃ s', f_X8_laysMonogram_12 kb n (nI i) (nI t) s = kb (nI (i + 1)) s' ∧ zk_k [83] s s' ∧ (∀ m, m < 9 * i + t → s'.1 83 m = s.1 83 m) ∧ ∀ u, t ≤ u → u < 9 → s'.1 83 (9 * i + u) = nI (zshf (L.getD i 0) u 9) := by
  intro j
  induction j with
  | zero =>
    intro t n s ht hn h81
    obtain ⟨n, rfl⟩ : ∃ q, n = q + 1 := ⟨n - 1, by omega⟩
    rw [f_X8_laysMonogram_12, if_pos (nI_le (by omega) (by omega)), zb_eq, nI_1]
    exact ⟨s, rfl, zk_k.rf, fun _ _ => rfl, fun u h1 h2 => by omega⟩
  | succ j ih =>
    intro t n s ht hn h81
    obtain ⟨n, rfl⟩ : ∃ q, n = q + 1 := ⟨n - 1, by omega⟩
    rw [f_X8_laysMonogram_12, if_neg (nI_ge (by omega) (by omega)), rd_81 s i rfl (by omega), Option.bind_some, h81, shf8 hL (by omega), zbd_some, wr_83 s (9 * i + t) (by rw [pk_mul, nI_add]) (by omega), Option.bind_some, zb_eq, nI_1]
    obtain ⟨s', g1, g2, g3, g4⟩ := ih (t + 1) n (zs_i s 83 (9 * i + t) (nI (zshf (L.getD i 0) t 9))) (by omega) (by omega) (by rw [zs_i_n _ _ _ _ _ (by decide)]; exact h81)
    refine ⟨s', g1, (zk_k.rf.i (by simp)).tr g2, fun m hm => ?_, fun u h1 h2 => ?_⟩
    · rw [g3 m (by omega), zs_i_o _ _ _ _ _ (by omega)]
    · by_cases e : u = t
      · subst e
        rw [g3 _ (by omega), zs_i_v]
      · exact g4 u (by omega) h2
theorem lm8_2 {L : List Nat} (h4 : L.length ≤ 4) (hL : ∀ i, i < L.length → L.getD i 0 < 512) : ∀ (j i n : Nat) (s : zS), i + j = L.length → j < n → s.1 76 20 = nI L.length → (∀ i, i < L.length → s.1 81 i = nI (L.getD i 0)) → (∀ m, m < i → ∀ t, t < 9 → s.1 83 (9 * m + t) = nI (zshf (L.getD m 0) t 9)) → ∃ s', f_X8_laysMonogram_2 n (nI i) s = some (nI (zmono L).1, s') ∧ ZR8 s' (zmono L) ∧ zk_m [82, 83, 84] s s' := by
  intro j
  induction j with
  | zero =>
    intro i n s hi hn h20 h81 h83
    obtain ⟨n, rfl⟩ : ∃ q, n = q + 1 := ⟨n - 1, by omega⟩
    rw [f_X8_laysMonogram_2, h20, if_pos (nI_le (by omega) (by omega)), zb_eq]
    have f1 : (zs_i s 76 21 268435456).1 76 20 = nI L.length := by rw [zs_i_o _ _ _ _ _ (by decide)]; exact h20
    obtain ⟨s', g1, g2, g3⟩ := go8 (L := L) L [] 0 (268435456, []) (zs_i s 76 21 268435456) zDP (by simp) rfl (by show L.length < 64; omega) (by simp) ⟨f1, h4, fun m hm t ht => by rw [zs_i_n _ _ _ _ _ (by decide)]; exact h83 m (by omega) t ht⟩ (fun i hi => absurd hi (by simp)) ⟨by rw [zs_i_v]; rfl, by decide, by simp, fun i hi => absurd hi (by simp)⟩
    have g1' : f_X8_goesShift zDP 0 0 (zs_i s 76 21 268435456) = some ((), s') := g1
    rw [g1', zbd_some, g2.1]
    refine ⟨s', rfl, g2, ?_⟩
    have k1 : zk_m [82, 83, 84] s (zs_i s 76 21 268435456) := zk_m.rf.f (by decide) (by decide) (by decide)
    exact k1.tr ⟨g3.1.mono (by simp), g3.2.1 5 (by decide), g3.2.1 13 (by decide), g3.2.1 14 (by decide), g3.2.1 29 (by decide)⟩
  | succ j ih =>
    intro i n s hi hn h20 h81 h83
    obtain ⟨n, rfl⟩ : ∃ q, n = q + 1 := ⟨n - 1, by omega⟩
    rw [f_X8_laysMonogram_2, h20, if_neg (nI_ge (by omega) (by omega))]
    obtain ⟨s1, a1, a2, a3, a4⟩ := lm8_12 (L := L) (f_X8_laysMonogram_2 n) (i := i) (by omega) h4 (hL i (by omega)) 9 0 zFU s (by decide) (by decide) (h81 i (by omega))
    have a1' : f_X8_laysMonogram_12 (f_X8_laysMonogram_2 n) zFU (nI i) 0 s = f_X8_laysMonogram_2 n (nI (i + 1)) s1 := a1
    rw [a1']
    obtain ⟨s', b1, b2, b3⟩ := ih (i + 1) n s1 (by omega) (by omega) (by rw [(a2 76 (by decide)).1]; exact h20) (fun m hm => by rw [(a2 81 (by decide)).1]; exact h81 m hm) (fun m hm t ht => by
      by_cases e : m = i
      · subst e; exact a4 t (by omega) ht
      · rw [a3 _ (by omega)]; exact h83 m (by omega) t ht)
    have k1 : zk_m [82, 83, 84] s s1 := ⟨a2.mono (by simp), by rw [(a2 76 (by decide)).1], by rw [(a2 76 (by decide)).1], by rw [(a2 76 (by decide)).1], by rw [(a2 76 (by decide)).1]⟩
    exact ⟨s', b1, b2, k1.tr b3⟩
