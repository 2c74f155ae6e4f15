theorem zgo_or : ∀ (rest : List Nat) (pre : List (Nat × Nat)) (cross : Nat) (st : Nat × List Nat), zgo rest pre cross st = st ∨ (zgo rest pre cross st).2.length = pre.length + rest.length := by
  intro rest
  induction rest with
  | nil =>
    intro pre cross st
    rw [zgo]
    split
    · exact Or.inl rfl
    · refine Or.inr ?_
      show (pre.map Prod.snd).length = _
      simp
  | cons b rest ih =>
    intro pre cross st
    rw [zgo]
    split
    · exact Or.inl rfl
    · refine zfd_P (fun x => x = st ∨ x.2.length = pre.length + (b :: rest).length) 9 0 st (fun j x hx => ?_) (Or.inl rfl)
      rcases ih (pre ++ [(b, j)]) (cross + zadd pre b j) x with h | h
      · rw [h]; exact hx
      · refine Or.inr (h.trans ?_)
        simp; omega
theorem ztot_le : ∀ (rest : List Nat) (pre : List (Nat × Nat)) (cross : Nat) (ss : List Nat), pre.length + rest.length ≤ 4 → ztot rest pre cross ss ≤ cross + 324 * rest.length := by
  intro rest
  induction rest with
  | nil => intro pre cross ss _; exact Nat.le_refl _
  | cons b rest ih =>
    intro pre cross ss h4
    simp only [List.length_cons] at h4 ⊢
    cases ss with
    | nil => show cross ≤ _; omega
    | cons t ss =>
      have h1 := ih (pre ++ [(b, t)]) (cross + zadd pre b t) ss (by simp; omega)
      have h2 := zadd_le b t pre
      show ztot rest (pre ++ [(b, t)]) (cross + zadd pre b t) ss ≤ _
      omega
def zzs : Nat → List Nat
  | 0 => []
  | n + 1 => 0 :: zzs n
theorem zzs_ok : ∀ n, zok n (zzs n) := by
  intro n
  induction n with
  | zero => trivial
  | succ n ih => exact ⟨by decide, ih⟩
theorem zmono_len {K : List Nat} (h4 : K.length ≤ 4) : (zmono K).2.length = K.length ∧ (zmono K).1 ≤ 1296 := by
  have h1 := zgo_ub K [] 0 (268435456, []) (zzs K.length) (zzs_ok _)
  have h2 := ztot_le K [] 0 (zzs K.length) (by simpa using h4)
  have h3 : (zmono K).1 ≤ 1296 := by show (zgo K [] 0 (268435456, [])).1 ≤ 1296; omega
  refine ⟨?_, h3⟩
  rcases zgo_or K [] 0 (268435456, []) with h | h
  · have : (zmono K).1 = 268435456 := by show (zgo K [] 0 (268435456, [])).1 = _; rw [h]
    omega
  · show (zgo K [] 0 (268435456, [])).2.length = K.length
    simpa using h
theorem zink_mem (G : Nat → Nat) (m : Nat) : ∀ n, zink n G m = ((zmem m n).map (fun p => zpc 9 (G p))).sum := by
  intro n
  induction n with
  | zero => rfl
  | succ n ih =>
    unfold zink at ih ⊢
    rw [zfd_last, ih, zmem, Nat.zero_add]
    by_cases h : m.testBit n = true
    · rw [if_pos h, if_pos h]; simp
    · rw [if_neg h, if_neg h]; simp
theorem two_all {n p q : Nat} (G : Nat → Nat) (hn : n ≤ 7) (hp : p < n) (hq : q < n) (hpq : p ≠ q) : (2 ^ p ||| 2 ^ q) < 2 ^ n ∧ 1 ≤ (2 ^ p ||| 2 ^ q) ∧ (zmem (2 ^ p ||| 2 ^ q) n).length = 2 ∧ zcs n G (2 ^ p ||| 2 ^ q) = zc2 G p q ∧ zink n G (2 ^ p ||| 2 ^ q) = zpc 9 (G p) + zpc 9 (G q) := by
  have main : ∀ a b, a < b → b < n → (2 ^ a ||| 2 ^ b) < 2 ^ n ∧ 1 ≤ (2 ^ a ||| 2 ^ b) ∧ (zmem (2 ^ a ||| 2 ^ b) n).length = 2 ∧ zcs n G (2 ^ a ||| 2 ^ b) = zc2 G a b ∧ zink n G (2 ^ a ||| 2 ^ b) = zpc 9 (G a) + zpc 9 (G b) := by
    intro a b hab hb
    obtain ⟨e1, e2, e3⟩ := zmem_two n (by omega) b hb a hab
    refine ⟨e2, ?_, by rw [e1]; rfl, ?_, ?_⟩
    · have h1 : 2 ^ a ≤ (2 ^ a ||| 2 ^ b) := Nat.left_le_or
      have h2 : 1 ≤ 2 ^ a := Nat.one_le_two_pow
      omega
    · unfold zcs
      rw [e1]
      show (zmono [G a, G b]).1 = _
      rw [zmono2, zc2, if_neg (by omega)]
    · rw [zink_mem, e1]
      simp
  by_cases h : p < q
  · exact main p q h hq
  · obtain ⟨e1, e2, e3⟩ := zmem_two n (by omega) p hp q (by omega)
    have := main q p (by omega) hp
    rw [e3, zc2_sym, Nat.add_comm (zpc 9 (G p))]
    exact this
/-- caches of the class -/
def JC2 (s : zS) (n : Nat) (G A : Nat → Nat) : Prop := ∀ m, 1 ≤ m → m < 128 → CA (s.1 48 m) (zag A m) (m < 2 ^ n → (zmem m n).length ≤ 4 → s.1 47 m = nI (zcs n G m) ∧ ∀ i, i < (zmem m n).length → s.1 49 (4 * m + i) = nI ((zmono ((zmem m n).map G)).2.getD i 0))
def JC3 (s : zS) (n : Nat) (G : Nat → Nat) (c0 : List Nat) (A : Nat → Nat) : Prop := ∀ m, 1 ≤ m → m < 128 → CA (s.1 51 m) (zag A m) (m < 2 ^ n → (zmem m n).length ≤ 4 → s.1 50 m = if zfs n G c0 m then 1 else 0)
def JC4 (s : zS) (n : Nat) (G M : Nat → Nat) (c1 : List Nat) (A B : Nat → Nat) : Prop := ∀ p q, p < 7 → q < 7 → p ≠ q → CA (s.1 54 (7 * p + q)) (A p + B p + (A q + B q)) (p < n → q < n → s.1 53 (7 * p + q) = zlk G M c1 p q)
theorem JC2.keep {s t : zS} {S : List Nat} {n : Nat} {G A : Nat → Nat} (h : JC2 s n G A) (hk : zk_k S s t) (hd : 47 ∉ S ∧ 48 ∉ S ∧ 49 ∉ S) : JC2 t n G A := by
  unfold JC2
  rw [(hk 47 hd.1).1, (hk 48 hd.2.1).1, (hk 49 hd.2.2).1]
  exact h
theorem JC3.keep {s t : zS} {S : List Nat} {n : Nat} {G A : Nat → Nat} {c0 : List Nat} (h : JC3 s n G c0 A) (hk : zk_k S s t) (hd : 50 ∉ S ∧ 51 ∉ S) : JC3 t n G c0 A := by
  unfold JC3
  rw [(hk 50 hd.1).1, (hk 51 hd.2).1]
  exact h
theorem JC4.keep {s t : zS} {S : List Nat} {n : Nat} {G M A B : Nat → Nat} {c1 : List Nat} (h : JC4 s n G M c1 A B) (hk : zk_k S s t) (hd : 53 ∉ S ∧ 54 ∉ S) : JC4 t n G M c1 A B := by
  unfold JC4
  rw [(hk 53 hd.1).1, (hk 54 hd.2).1]
  exact h
def JQ (s : zS) (n : Nat) (G M : Nat → Nat) (c0 c1 : List Nat) (A B : Nat → Nat) : Prop := ZK s n G M c0 c1 ∧ JA s A B ∧ JC1 s n G A ∧ JC2 s n G A ∧ ∀ j, j < 36 → s.1 57 j = 0
def JR (s : zS) (n : Nat) (G M : Nat → Nat) (c0 c1 : List Nat) (A B : Nat → Nat) : Prop := JQ s n G M c0 c1 A B ∧ JC3 s n G c0 A ∧ JC4 s n G M c1 A B
/-- the cells that rings may change -/
def RC : List Nat := [42, 43, 44, 45, 47, 48, 49, 50, 51, 53, 54, 55, 56, 57, 58, 59]
theorem JQ.keep {s t : zS} {S : List Nat} {n : Nat} {G M A B : Nat → Nat} {c0 c1 : List Nat} (h : JQ s n G M c0 c1 A B) (hk : zk_k S s t) (hd : ∀ k, k ∈ [3, 4, 5, 9, 10, 11, 43, 44, 45, 47, 48, 49, 57] → k ∉ S) : JQ t n G M c0 c1 A B := by
  refine ⟨h.1.keep hk ⟨hd 3 (by decide), hd 4 (by decide), hd 5 (by decide), hd 9 (by decide)⟩, h.2.1.keep hk ⟨hd 10 (by decide), hd 11 (by decide)⟩, h.2.2.1.keep hk ⟨hd 43 (by decide), hd 44 (by decide), hd 45 (by decide)⟩, h.2.2.2.1.keep hk ⟨hd 47 (by decide), hd 48 (by decide), hd 49 (by decide)⟩, fun j hj => ?_⟩
  rw [(hk 57 (hd 57 (by decide))).1]
  exact h.2.2.2.2 j hj
theorem JR.keep {s t : zS} {S : List Nat} {n : Nat} {G M A B : Nat → Nat} {c0 c1 : List Nat} (h : JR s n G M c0 c1 A B) (hk : zk_k S s t) (hd : ∀ k, k ∈ [3, 4, 5, 9, 10, 11, 43, 44, 45, 47, 48, 49, 50, 51, 53, 54, 57] → k ∉ S) : JR t n G M c0 c1 A B :=
  ⟨h.1.keep hk (fun k hm => hd k (by revert k; decide)), h.2.1.keep hk ⟨hd 50 (by decide), hd 51 (by decide)⟩, h.2.2.keep hk ⟨hd 53 (by decide), hd 54 (by decide)⟩⟩
section RINGS7
variable {n : Nat} {G M A B : Nat → Nat} {c0 c1 : List Nat} {s : zS}
theorem cross7 (hJ : JQ s n G M c0 c1 A B) {m : Nat} (h1 : 1 ≤ m) (hm : m < 2 ^ n) (h4 : (zmem m n).length ≤ 4) : ∃ s', f_X4_crossingsOf (nI m) s = some (nI (zcs n G m), s') ∧ JQ s' n G M c0 c1 A B ∧ (∀ i, i < (zmem m n).length → s'.1 49 (4 * m + i) = nI ((zmono ((zmem m n).map G)).2.getD i 0)) ∧ zk_k [42, 43, 44, 45, 47, 48, 49, 55, 56, 57] s s' := by
  obtain ⟨hZ, hA, hC1, hC2, h57⟩ := hJ
  have hn := hZ.1
  have h128 := pow_128 hn
  have hag := zag_le hA m
  unfold f_X4_crossingsOf f_X4_crossingsOf_46
  rw [sage7 hA (by omega), zbd_some, rd_48 s m rfl (by omega), Option.bind_some]
  by_cases hh : s.1 48 m = nI (zag A m)
  · obtain ⟨e1, e2⟩ := (hC2 m h1 (by omega)).hit (by omega) hh hm h4
    rw [if_pos hh, rd_47 s m rfl (by omega), Option.bind_some, e1]
    exact ⟨s, rfl, ⟨hZ, hA, hC1, hC2, h57⟩, e2, zk_k.rf⟩
  · rw [if_neg hh, wr_48 s m rfl (by omega), Option.bind_some, wr_47 _ m rfl (by omega), Option.bind_some]
    have k0 : zk_k [47, 48] s (zs_i (zs_i s 48 m (nI (zag A m))) 47 m 1000000) := (zk_k.rf.i (by simp)).i (by simp)
    obtain ⟨s7, a1, a2, a3, a4⟩ := tm7 hm h4 (hZ.keep k0 (by decide)) (hA.keep k0 (by decide)) (hC1.keep k0 (by decide))
    have e47 : s7.1 47 = (zs_i (zs_i s 48 m (nI (zag A m))) 47 m 1000000).1 47 := (a4 47 (by decide)).1
    have e48 : s7.1 48 = (zs_i s 48 m (nI (zag A m))).1 48 := by rw [(a4 48 (by decide)).1, zs_i_n _ _ _ _ _ (by decide)]
    have e49 : s7.1 49 = s.1 49 := by rw [(a4 49 (by decide)).1, (k0 49 (by decide)).1]
    have e57 : s7.1 57 = s.1 57 := by rw [(a4 57 (by decide)).1, (k0 57 (by decide)).1]
    have hlen : ((zmem m n).map G).length = (zmem m n).length := List.length_map ..
    have hB : ZB7 s7 (zmem m n) ((zmem m n).map G) := by
      refine ⟨a3.1, h4, hlen, fun i hi => ⟨a3.2.1 i hi, ?_⟩, fun i j hij hj => ?_⟩
      · have := ((zmem_lt m n _).mp (gd_mem _ 0 hi)).1
        omega
      · have g1 := zmem_pw m n i j hij hj
        have g2 := ((zmem_lt m n _).mp (gd_mem (zmem m n) 0 hj)).1
        have hAi := hA ((zmem m n).getD i 0) (by omega)
        have hAj := hA ((zmem m n).getD j 0) (by omega)
        rw [gdK G (by omega), gdK G hj]
        exact (a2 _ _ g1 (by omega)).hit (by omega) (a3.2.2 i j hij hj) g2
    have hne : (zmem m n) ≠ [] := by
      intro e
      have hz : zpc n m = 0 := by rw [← zmem_len, e]; rfl
      have hb : ∀ k, zpc k m = 0 → ∀ i, i < k → m.testBit i = false := by
        intro k
        induction k with
        | zero => intro _ i hi; omega
        | succ k ih =>
          intro hk i hi
          have hk2 : zpc k m + zbit m k = 0 := hk
          by_cases e : i = k
          · subst e
            have : zbit m i = 0 := by omega
            rw [zbit_tb] at this
            cases hh : m.testBit i with
            | false => rfl
            | true => rw [hh] at this; cases this
          · exact ih (by omega) i (by omega)
      have : m = 0 := Nat.eq_of_testBit_eq (fun i => by
        rw [Nat.zero_testBit]
        by_cases hi : i < n
        · exact hb n hz i hi
        · exact Nat.testBit_lt_two_pow (Nat.lt_of_lt_of_le hm (Nat.pow_le_pow_right (by decide) (by omega))))
      omega
    obtain ⟨b, rest, hbr⟩ : ∃ b rest, (zmem m n).map G = b :: rest := by
      cases hz : zmem m n with
      | nil => exact absurd hz hne
      | cons x l => exact ⟨G x, l.map G, rfl⟩
    have hrl : rest.length + 1 = (zmem m n).length := by rw [← hlen, hbr]; rfl
    obtain ⟨s8, b1, b2, b3⟩ := lay7 (L := zmem m n) (K := (zmem m n).map G) (m := m) (by omega) rest b [] 0 (1000000, []) s7 zDP (by rw [hbr]; rfl) (by show rest.length < 64; omega) (by simp) hB (fun i hi => absurd hi (by simp)) (fun k _ hk t ht => by
      rw [hlen] at hk
      simp only [List.length_nil, Nat.zero_mul, Nat.zero_add]
      rw [e57]
      exact h57 _ (by omega)) ⟨by rw [e47, zs_i_v]; rfl, by decide, fun i hi => absurd hi (by simp)⟩
    have hmono : zfd (fun t st => zgo rest ([] ++ [(b, t)]) (0 + zadd [] b t) st) 9 0 (1000000, []) = zmono ((zmem m n).map G) := by
      have : zgo (b :: rest) [] 0 (1000000, []) = zmono (b :: rest) := zgo_far (b :: rest) [] 0 _ _ (by simp; omega) (by show 0 + 324 * (rest.length + 1) < 1000000; omega) (by show 0 + 324 * (rest.length + 1) < 268435456; omega)
      rw [zgo, if_neg (by decide)] at this
      rw [hbr]
      exact this
    rw [hmono] at b2
    have b1' : f_X4_lay zDP (nI m) 0 0 s7 = some ((), s8) := b1
    rw [a1, zbd_some, b1', zbd_some, rd_47 s8 m rfl (by omega), Option.bind_some, b2.1]
    have k1 : zk_k [42, 43, 44, 45, 47, 48, 49, 55, 56, 57] s s8 := ((k0.mono (by simp)).tr (a4.mono (by simp))).tr (b3.1.mono (by simp))
    have hml : (zmono ((zmem m n).map G)).2.length = (zmem m n).length := by rw [(zmono_len (by rw [hlen]; exact h4)).1, hlen]
    have sh : ∀ i, i < (zmem m n).length → s8.1 49 (4 * m + i) = nI ((zmono ((zmem m n).map G)).2.getD i 0) := fun i hi => b2.2.2 i (by omega)
    refine ⟨s8, rfl, ⟨hZ.keep k1 (by decide), hA.keep k1 (by decide), a2.keep b3.1 (by decide), fun m2 q1 q2 => ?_, fun j hj => ?_⟩, sh, k1⟩
    · rw [(b3.1 48 (by decide)).1, e48]
      by_cases e : m2 = m
      · subst e
        exact CA.now (zs_i_v _ _ _ _) (fun _ _ => ⟨b2.1, sh⟩)
      · rw [zs_i_o _ _ _ _ _ e]
        refine (hC2 m2 q1 q2).mono (fun h p1 p2 => ?_)
        obtain ⟨r1, r2⟩ := h p1 p2
        refine ⟨?_, fun i hi => ?_⟩
        · rw [b3.2.1 m2 e, e47, zs_i_o _ _ _ _ _ e, zs_i_n _ _ _ _ _ (by decide)]
          exact r1
        · rw [b3.2.2.1 _ (by omega), e49]
          exact r2 i hi
    · rw [b3.2.2.2.2 j (by simpa using hj), e57]
      exact h57 j hj
theorem z01 (b : Bool) : (if b then (1 : Int32) else 0) = 0 ∨ (if b then (1 : Int32) else 0) = 1 := by cases b <;> simp
theorem nar01 (b : Bool) : vp_nar .boolean (if b then (1 : Int32) else 0) = if b then 1 else 0 := by cases b <;> first | exact nar_z0 | exact nar_z1
theorem fitting7 (hJ : JR s n G M c0 c1 A B) {m : Nat} (h1 : 1 ≤ m) (hm : m < 2 ^ n) : ∃ s', f_X4_isFitting (nI m) s = some (if zfs n G c0 m then 1 else 0, s') ∧ JR s' n G M c0 c1 A B ∧ zk_k RC s s' := by
  obtain ⟨hQ, hC3, hC4⟩ := hJ
  have hn := hQ.1.1
  have h128 := pow_128 hn
  have hag := zag_le hQ.2.1 m
  have hl : (zmem m n).length ≤ n := by rw [zmem_len]; exact zpc_le _ _
  unfold f_X4_isFitting f_X4_isFitting_62
  rw [bc_ok s (by omega), zbd_some, (zpc_n hn hm).2]
  by_cases h4 : (zmem m n).length ≤ 4
  · rw [if_pos (nI_le h4 (by omega)), sage7 hQ.2.1 (by omega), zbd_some, rd_51 s m rfl (by omega), Option.bind_some]
    by_cases hh : s.1 51 m = nI (zag A m)
    · have e1 := (hC3 m h1 (by omega)).hit (by omega) hh hm h4
      rw [if_pos hh, rd_50 s m rfl (by omega), Option.bind_some, e1, if_pos (z01 _)]
      exact ⟨s, rfl, ⟨hQ, hC3, hC4⟩, zk_k.rf⟩
    · rw [if_neg hh, wr_51 s m rfl (by omega), Option.bind_some]
      have k0 : zk_k [51] s (zs_i s 51 m (nI (zag A m))) := zk_k.rf.i (by simp)
      obtain ⟨s1, a1, a2, a3, a4⟩ := cross7 (hQ.keep k0 (by decide)) h1 hm h4
      obtain ⟨s2, b1, b2⟩ := fit7 a2.1 (zcs n G m) (zink n G m) (zmem m n).length (zcs_lt _ _ _)
      have ef : zfs n G c0 m = zfit c0 (zcs n G m) (zink n G m) (zmem m n).length := by unfold zfs; simp [h4]
      rw [a1, zbd_some, ink7k a2.1 (by omega), zbd_some, b1, zbd_some, ← ef, wr_50 s2 m rfl (by omega), Option.bind_some, nar01, rd_50 _ m rfl (by omega), Option.bind_some, zs_i_v, if_pos (z01 _)]
      have e51 : s2.1 51 = (zs_i s 51 m (nI (zag A m))).1 51 := by rw [(b2 51 (by decide)).1, (a4 51 (by decide)).1]
      have e50 : s2.1 50 = s.1 50 := by rw [(b2 50 (by decide)).1, (a4 50 (by decide)).1, zs_i_n _ _ _ _ _ (by decide)]
      have k2 : zk_k [50, 58, 59] s1 (zs_i s2 50 m (if zfs n G c0 m then 1 else 0)) := (b2.mono (by simp)).i (by simp)
      have k3 : zk_k RC s (zs_i s2 50 m (if zfs n G c0 m then 1 else 0)) := (k0.mono (by decide)).tr ((a4.mono (by decide)).tr (k2.mono (by decide)))
      refine ⟨_, rfl, ⟨a2.keep k2 (by decide), fun m2 q1 q2 => ?_, ?_⟩, k3⟩
      · rw [zs_i_n _ _ _ _ _ (by decide : (51 : Nat) ≠ 50), e51]
        by_cases e : m2 = m
        · subst e
          exact CA.now (zs_i_v _ _ _ _) (fun _ _ => zs_i_v _ _ _ _)
        · rw [zs_i_o _ _ _ _ _ e, zs_i_o _ _ _ _ _ e, e50]
          exact hC3 m2 q1 q2
      · exact ((hC4.keep k0 (by decide)).keep a4 (by decide)).keep k2 (by decide)
  · rw [if_neg (nI_ge (by omega) (by omega))]
    have ef : zfs n G c0 m = false := by unfold zfs; simp [h4]
    rw [ef]
    exact ⟨s, rfl, ⟨hQ, hC3, hC4⟩, zk_k.rf⟩
theorem zfs_two (hn : n ≤ 7) {p q : Nat} (hp : p < n) (hq : q < n) (hpq : p ≠ q) : zfs n G c0 (2 ^ p ||| 2 ^ q) = zfit c0 (zc2 G p q) (zpc 9 (G p) + zpc 9 (G q)) 2 := by
  obtain ⟨-, -, e3, e4, e5⟩ := two_all G hn hp hq hpq
  unfold zfs
  rw [e3, e4, e5]
  simp
theorem twofit7 (hJ : JR s n G M c0 c1 A B) {p q : Nat} (hp : p < n) (hq : q < n) (hpq : p ≠ q) : ∃ s', f_X4_twoFit (nI p) (nI q) s = some (if zfs n G c0 (2 ^ p ||| 2 ^ q) then 1 else 0, s') ∧ JR s' n G M c0 c1 A B ∧ zk_k RC s s' := by
  obtain ⟨hQ, hC3, hC4⟩ := hJ
  have hn := hQ.1.1
  have h128 := pow_128 hn
  obtain ⟨hm, h1, e3, e4, e5⟩ := two_all G hn hp hq hpq
  have ez := zfs_two (G := G) (c0 := c0) hn hp hq hpq
  unfold f_X4_twoFit f_X4_twoFit_62
  rw [one_shl p (by omega), one_shl q (by omega), nI_or, zb_eq]
  generalize hmm : (2 ^ p ||| 2 ^ q) = m at *
  have hag := zag_le hQ.2.1 m
  rw [sage7 hQ.2.1 (by omega), zbd_some, rd_51 s m rfl (by omega), Option.bind_some]
  by_cases hh : s.1 51 m = nI (zag A m)
  · have e1 := (hC3 m h1 (by omega)).hit (by omega) hh hm (by omega)
    rw [if_pos hh, rd_50 s m rfl (by omega), Option.bind_some, e1, if_pos (z01 _)]
    exact ⟨s, rfl, ⟨hQ, hC3, hC4⟩, zk_k.rf⟩
  · rw [if_neg hh, wr_51 s m rfl (by omega), Option.bind_some]
    have k0 : zk_k [51] s (zs_i s 51 m (nI (zag A m))) := zk_k.rf.i (by simp)
    have hQ0 := hQ.keep k0 (by decide)
    obtain ⟨s1, a1, a2, a4⟩ := few7 hQ0.1 hQ0.2.1 hQ0.2.2.1 hpq hp hq
    have hZ1 := hQ0.1.keep a4 (by decide)
    have hx := zc2_le G p q
    obtain ⟨s2, b1, b2⟩ := fit7 hZ1 (zc2 G p q) (zink n G m) 2 (by omega)
    rw [e5, ← ez] at b1
    rw [a1, zbd_some, ink7k hZ1 (by omega), zbd_some, e5, b1, zbd_some, wr_50 s2 m rfl (by omega), Option.bind_some, nar01, rd_50 _ m rfl (by omega), Option.bind_some, zs_i_v, if_pos (z01 _)]
    have e51 : s2.1 51 = (zs_i s 51 m (nI (zag A m))).1 51 := by rw [(b2 51 (by decide)).1, (a4 51 (by decide)).1]
    have e50 : s2.1 50 = s.1 50 := by rw [(b2 50 (by decide)).1, (a4 50 (by decide)).1, zs_i_n _ _ _ _ _ (by decide)]
    have k2 : zk_k [50, 58, 59] s1 (zs_i s2 50 m (if zfs n G c0 m then 1 else 0)) := (b2.mono (by simp)).i (by simp)
    have k3 : zk_k RC s (zs_i s2 50 m (if zfs n G c0 m then 1 else 0)) := (k0.mono (by decide)).tr ((a4.mono (by decide)).tr (k2.mono (by decide)))
    refine ⟨_, rfl, ⟨⟨hZ1.keep k2 (by decide), (hQ0.2.1.keep a4 (by decide)).keep k2 (by decide), a2.keep k2 (by decide), (hQ0.2.2.2.1.keep a4 (by decide)).keep k2 (by decide), fun j hj => ?_⟩, fun m2 q1 q2 => ?_, ?_⟩, k3⟩
    · rw [(k2 57 (by decide)).1, (a4 57 (by decide)).1]
      exact hQ0.2.2.2.2 j hj
    · rw [zs_i_n _ _ _ _ _ (by decide : (51 : Nat) ≠ 50), e51]
      by_cases e : m2 = m
      · subst e
        exact CA.now (zs_i_v _ _ _ _) (fun _ _ => zs_i_v _ _ _ _)
      · rw [zs_i_o _ _ _ _ _ e, zs_i_o _ _ _ _ _ e, e50]
        exact hC3 m2 q1 q2
    · exact ((hC4.keep k0 (by decide)).keep a4 (by decide)).keep k2 (by decide)
theorem age7 (hA : JA s A B) {p : Nat} (hp : p < 7) : f_X5_ageOf_3 (nI p) s = some (nI (A p + B p), s) := by
  rw [f_X5_ageOf_3, rd_10 s p rfl hp, Option.bind_some, rd_11 s p rfl hp, Option.bind_some, (hA p hp).1, (hA p hp).2.1, nI_add]
theorem few7Q (hQ : JQ s n G M c0 c1 A B) {p q : Nat} (hpq : p ≠ q) (hp : p < n) (hq : q < n) : ∃ s', f_X4_fewestOf (nI p) (nI q) s = some (nI (zc2 G p q), s') ∧ JQ s' n G M c0 c1 A B ∧ zk_k [43, 44, 45] s s' := by
  obtain ⟨s1, a1, a2, a4⟩ := few7 hQ.1 hQ.2.1 hQ.2.2.1 hpq hp hq
  exact ⟨s1, a1, ⟨hQ.1.keep a4 (by decide), hQ.2.1.keep a4 (by decide), a2, hQ.2.2.2.1.keep a4 (by decide), fun j hj => by rw [(a4 57 (by decide)).1]; exact hQ.2.2.2.2 j hj⟩, a4⟩
theorem lik7 (hJ : JR s n G M c0 c1 A B) {p q : Nat} (hp : p < n) (hq : q < n) (hpq : p ≠ q) : ∃ s', f_X4_liking (nI p) (nI q) s = some (zlk G M c1 p q, s') ∧ JR s' n G M c0 c1 A B ∧ zk_k RC s s' := by
  obtain ⟨hQ, hC3, hC4⟩ := hJ
  have hn := hQ.1.1
  have hAp := hQ.2.1 p (by omega)
  have hAq := hQ.2.1 q (by omega)
  unfold f_X4_liking f_X4_liking_164 f_X4_liking_165
  rw [zb_eq, age7 hQ.2.1 (by omega), zbd_some, age7 hQ.2.1 (by omega), zbd_some, zb_eq, nI_add (A p + B p), pk_mul, nI_add, show p * 7 + q = 7 * p + q by omega, rd_54 s (7 * p + q) rfl (by omega), Option.bind_some]
  by_cases hh : s.1 54 (7 * p + q) = nI (A p + B p + (A q + B q))
  · have e1 := (hC4 p q (by omega) (by omega) hpq).hit (by omega) hh hp hq
    rw [if_pos hh, rd_53 s (7 * p + q) rfl (by omega), Option.bind_some, e1]
    exact ⟨s, rfl, ⟨hQ, hC3, hC4⟩, zk_k.rf⟩
  · rw [if_neg hh, wr_54 s (7 * p + q) rfl (by omega), Option.bind_some]
    have k0 : zk_k [54] s (zs_i s 54 (7 * p + q) (nI (A p + B p + (A q + B q)))) := zk_k.rf.i (by simp)
    obtain ⟨s1, a1, a2, a4⟩ := few7Q (hQ.keep k0 (by decide)) hpq hp hq
    have e54 : s1.1 54 = (zs_i s 54 (7 * p + q) (nI (A p + B p + (A q + B q)))).1 54 := (a4 54 (by decide)).1
    have e53 : s1.1 53 = s.1 53 := by rw [(a4 53 (by decide)).1, zs_i_n _ _ _ _ _ (by decide)]
    have hZ1 := a2.1
    rw [a1, zbd_some, wr_59 s1 (x := 0) 0 rfl (by decide), Option.bind_some, rd_4 _ q rfl (by omega), Option.bind_some, zs_i_n _ _ _ _ _ (by decide : (4 : Nat) ≠ 59), (hZ1.2.2.1 q hq).1.1, bc_ok _ (hZ1.2.2.1 q hq).1.2, zbd_some, wr_59 _ (x := 1) 1 rfl (by decide), Option.bind_some, wr_59 _ 3 rfl (by decide), Option.bind_some, wr_59 _ 4 rfl (by decide), Option.bind_some, rd_5 _ p rfl (by omega), Option.bind_some, zs_i_n _ _ _ _ _ (by decide : (5 : Nat) ≠ 59), zs_i_n _ _ _ _ _ (by decide : (5 : Nat) ≠ 59), zs_i_n _ _ _ _ _ (by decide : (5 : Nat) ≠ 59), zs_i_n _ _ _ _ _ (by decide : (5 : Nat) ≠ 59), (hZ1.2.2.1 p hp).2.1, wr_59 _ 5 rfl (by decide), Option.bind_some, rd_5 _ q rfl (by omega), Option.bind_some, zs_i_n _ _ _ _ _ (by decide : (5 : Nat) ≠ 59), zs_i_n _ _ _ _ _ (by decide : (5 : Nat) ≠ 59), zs_i_n _ _ _ _ _ (by decide : (5 : Nat) ≠ 59), zs_i_n _ _ _ _ _ (by decide : (5 : Nat) ≠ 59), zs_i_n _ _ _ _ _ (by decide : (5 : Nat) ≠ 59), (hZ1.2.2.1 q hq).2.1, wr_59 _ 6 rfl (by decide), Option.bind_some]
    generalize ht : zs_i (zs_i (zs_i (zs_i (zs_i (zs_i s1 59 0 (nI (zc2 G p q))) 59 1 (nI (zpc 9 (G q)))) 59 3 (nI p)) 59 4 (nI q)) 59 5 (nI (M p))) 59 6 (nI (M q)) = t
    have kk : zk_k [59] s1 t := by
      rw [← ht]
      exact (((((zk_k.rf.i (by simp)).i (by simp)).i (by simp)).i (by simp)).i (by simp)).i (by simp)
    have fin : ∀ (v : Int32) (u : zS), v = zlk G M c1 p q → zk_k [58, 59] s1 u → ∃ s', ((zw_i u 53 (nI (7 * p + q)) v).bind fun s2 => (zr_i s2 53 (nI (7 * p + q))).bind fun x1 => some (x1, s2)) = some (zlk G M c1 p q, s') ∧ JR s' n G M c0 c1 A B ∧ zk_k RC s s' := by
      intro v u hv ku
      subst hv
      rw [wr_53 u (7 * p + q) rfl (by omega), Option.bind_some, rd_53 _ (7 * p + q) rfl (by omega), Option.bind_some, zs_i_v]
      have k2 : zk_k [53, 58, 59] s1 (zs_i u 53 (7 * p + q) (zlk G M c1 p q)) := (ku.mono (by simp)).i (by simp)
      refine ⟨_, rfl, ⟨a2.keep k2 (by decide), ((hC3.keep k0 (by decide)).keep a4 (by decide)).keep k2 (by decide), fun p2 q2 hp2 hq2 hne => ?_⟩, (k0.mono (by decide)).tr ((a4.mono (by decide)).tr (k2.mono (by decide)))⟩
      rw [zs_i_n _ _ _ _ _ (by decide : (54 : Nat) ≠ 53), (ku 54 (by decide)).1, e54]
      by_cases e : p2 = p ∧ q2 = q
      · obtain ⟨rfl, rfl⟩ := e
        exact CA.now (zs_i_v _ _ _ _) (fun _ _ => zs_i_v _ _ _ _)
      · rw [zs_i_o _ _ _ _ _ (by omega), zs_i_o _ _ _ _ _ (by omega), (ku 53 (by decide)).1, e53]
        exact hC4 p2 q2 hp2 hq2 hne
    have e3 : t.1 3 = s1.1 3 := (kk 3 (by decide)).1
    rcases hZ1.2.2.2.2 with ⟨h1, h2⟩ | ⟨h2, C, h3, h4, h5, h6⟩
    · rw [e3, show s1.1 3 11 = s1.1 3 12 from h1, if_neg (fun z => z rfl)]
      exact fin 1 t (by unfold zlk zlik; rw [if_pos h2]) (kk.mono (by simp))
    · have h4' : s1.1 3 11 = nI C := h4
      have h5' : s1.1 3 12 = nI (C + c1.length) := h5
      have hl : 0 < c1.length := List.length_pos_iff.mpr (zty_nn h2)
      rw [e3, h4', h5', if_pos (ne_of_nI (by omega) (by omega) (by omega))]
      have e9 := (kk 9 (by decide)).1
      obtain ⟨v, s', g1, g2, g3⟩ := reck7_loop (w := 1) (C := C) (cs := c1) (env := zenvL (zc2 G p q) (zpc 9 (G q)) p (M p) q (M q)) h3 c1 0 zFU [] [] false t (by rw [e9]; exact h6)
        (fun j hj => by
          rw [← ht]
          rcases wd1 hj with rfl | rfl | rfl | rfl | rfl | rfl <;> simp [zs_i, upd, zenvL, zenc]) rfl (by omega) (by show c1.length < 5000; omega) h2 trivial trivial (by simp)
      have g1' : f_X4_reckon (nI C) (nI (C + c1.length)) t = some (v, s') := g1
      rw [g1', zbd_some]
      refine fin v s' ?_ ((kk.mono (by simp)).tr (g2.mono (by simp)))
      unfold zlk zlik
      rw [if_neg (zty_nn h2), headD_of g3]
theorem match7 (hJ : JR s n G M c0 c1 A B) {p q : Nat} (hp : p < n) (hq : q < n) (hpq : p ≠ q) : ∃ s', f_X0_areMatching (nI p) (nI q) s = some (if zmt G M c0 c1 p q then 1 else 0, s') ∧ JR s' n G M c0 c1 A B ∧ zk_k RC s s' := by
  have hn := hJ.1.1.1
  unfold f_X0_areMatching f_X0_areMatching_40 f_X0_areMatching_41
  obtain ⟨s1, a1, a2, a3⟩ := lik7 hJ hp hq hpq
  rw [a1, zbd_some]
  by_cases e2 : zlk G M c1 p q ≤ 0
  · rw [if_pos e2, if_pos (Or.inl rfl), show zmt G M c0 c1 p q = false by unfold zmt; simp [Int32.not_lt.mpr e2]]
    exact ⟨s1, rfl, a2, a3⟩
  obtain ⟨s2, b1, b2, b3⟩ := lik7 a2 hq hp (Ne.symm hpq)
  rw [if_neg e2, b1, zbd_some]
  by_cases e3 : zlk G M c1 q p ≤ 0
  · rw [if_pos e3, if_pos (Or.inl rfl), show zmt G M c0 c1 p q = false by unfold zmt; simp [Int32.not_lt.mpr e3]]
    exact ⟨s2, rfl, b2, a3.tr b3⟩
  obtain ⟨s3, d1, d2, d3⟩ := twofit7 b2 hp hq hpq
  have em : zmt G M c0 c1 p q = zfs n G c0 (2 ^ p ||| 2 ^ q) := by
    rw [zfs_two hn hp hq hpq]
    unfold zmt
    simp [hpq, Int32.not_le.mp e2, Int32.not_le.mp e3]
  rw [if_neg e3, d1, zbd_some, em]
  refine ⟨s3, ?_, d2, (a3.tr b3).tr d3⟩
  cases zfs n G c0 (2 ^ p ||| 2 ^ q) <;> simp
theorem more7_no (p q : Nat) : f_X0_likesMore (nI p) (nI q) (-1) s = some (1, s) := by
  unfold f_X0_likesMore
  rw [if_neg (by decide)]
theorem more7 (hJ : JR s n G M c0 c1 A B) {p q r : Nat} (hp : p < n) (hq : q < n) (hr : r < n) (h1 : p ≠ q) (h2 : p ≠ r) : ∃ s', f_X0_likesMore (nI p) (nI q) (nI r) s = some (if zlm G M c1 p q r then 1 else 0, s') ∧ JR s' n G M c0 c1 A B ∧ zk_k RC s s' := by
  have hn := hJ.1.1.1
  unfold f_X0_likesMore f_X0_likesMore_47 f_X0_likesMore_51 f_X0_likesMore_52 zlm
  obtain ⟨s1, a1, a2, a3⟩ := lik7 hJ hp hq h1
  obtain ⟨s2, b1, b2, b3⟩ := lik7 a2 hp hr h2
  rw [if_pos (nI_pos' (by omega)), a1, zbd_some, b1, zbd_some]
  refine ⟨s2, ?_, b2, a3.tr b3⟩
  by_cases a : zlk G M c1 p r < zlk G M c1 p q
  · rw [if_pos a]; simp [a]
  · rw [if_neg a]
    by_cases b : zlk G M c1 p q = zlk G M c1 p r
    · rw [if_neg (fun z => z b)]
      by_cases c : q < r
      · rw [if_neg (nI_ge c (by omega))]; simp [c, b]
      · rw [if_pos (nI_le (by omega) (by omega))]; simp [c, b]
    · rw [if_pos b]; simp [a, b]
end RINGS7
