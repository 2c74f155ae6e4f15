/-- numbers of a law stay small -/
def zsm (x : Int32) : Prop := -1000000 ≤ x.toInt ∧ x.toInt ≤ 1000000
theorem zsm_nI {k : Nat} (h : k ≤ 1000000) : zsm (nI k) := by
  unfold zsm
  rw [nI_toInt (by omega)]
  omega
theorem zsm_cl (v : Int64) : zsm (zclamp v) := by
  unfold zclamp
  split
  · rename_i h1
    split
    · rename_i h2
      have h3 := Int64.le_iff_toInt_le.mp ((lg_le0 _ _).mp h1)
      have h4 := Int64.le_iff_toInt_le.mp ((lg_cmp_ge _ _).mp h2)
      have e1 : (1000000 : Int64).toInt = 1000000 := rfl
      have e2 : (-1000000 : Int64).toInt = -1000000 := rfl
      rw [e1] at h3
      rw [e2] at h4
      unfold zsm
      rw [Int64.toInt_toInt32, Int.bmod_eq_of_le (by omega) (by omega)]
      omega
    · unfold zsm; decide
  · unfold zsm; decide
theorem zsm_01 {x : Int32} (h : x = 0 ∨ x = 1) : zsm x := by
  rcases h with rfl | rfl
  · unfold zsm; decide
  · unfold zsm; decide
theorem zev_sm {w : Nat} {env : Nat → Int32} (he : ∀ k, zsm (env k)) : ∀ (l : List Nat) (tl : List Bool) (st : List Int32) (r : List Bool), zty w l tl = some r → ztys tl st → (∀ x ∈ st, zsm x) → ∀ x ∈ zev env l st, zsm x := by
  intro l
  induction l with
  | nil => intro tl st r h ht hst; exact hst
  | cons c l ih =>
    intro tl st r h ht hst
    rw [zty] at h
    rw [zev]
    by_cases hw : zword w c = true
    · rw [if_pos hw] at h
      split at h
      · rcases zword_cases hw with h1 | ⟨h1, h2⟩
        · rw [if_pos h1]
          exact ih _ _ _ h ⟨by simp, ht⟩ (fun x hx => by
            rcases List.mem_cons.mp hx with e | e
            · rw [e]; exact zsm_nI (by omega)
            · exact hst x e)
        · rw [if_neg (by omega), if_pos h2]
          exact ih _ _ _ h ⟨by simp, ht⟩ (fun x hx => by
            rcases List.mem_cons.mp hx with e | e
            · rw [e]; exact he _
            · exact hst x e)
      · cases h
    · rw [if_neg hw] at h
      by_cases h6 : c = 3006
      · subst h6
        rw [if_pos rfl] at h
        rw [if_neg (by decide), if_neg (by decide), if_pos rfl]
        obtain ⟨tl, rfl, h⟩ := zt1_some h
        cases st with
        | nil => exact absurd ht (by simp [ztys])
        | cons x st =>
          have h01 : 1 - x = 0 ∨ 1 - x = 1 := by rcases ht.1 rfl with e | e <;> rw [e] <;> decide
          exact ih _ _ _ h ⟨fun _ => h01, ht.2⟩ (fun y hy => by
            rcases List.mem_cons.mp hy with e | e
            · rw [e]; exact zsm_01 h01
            · exact hst y (List.mem_cons_of_mem _ e))
      · rw [if_neg h6] at h
        have two : ∀ (x y : Bool), ((c = 3000 ∨ c = 3001 ∨ c = 3002) ∧ y = false) ∨ ((c = 3003 ∨ c = 3004 ∨ c = 3005) ∧ y = true) ∨ ((c = 3007 ∨ c = 3008) ∧ x = true) → zt2 x y (zty w l) tl = some r → ∀ v ∈ (if c < 1000 then zev env l (nI c :: st) else if c ≤ 1006 then zev env l (env (c - 1000) :: st) else if c = 3006 then ze1 (zev env l) st else ze2 c (zev env l) st), zsm v := by
          intro x y hc hz
          have hc3 : 3000 ≤ c := by omega
          rw [if_neg (by omega), if_neg (by omega), if_neg h6]
          obtain ⟨tr, rfl, hq⟩ := zt2_some hz
          cases st with
          | nil => exact absurd ht (by simp [ztys])
          | cons b st =>
            cases st with
            | nil => exact absurd ht.2 (by simp [ztys])
            | cons a st =>
              have key : (y = true → zbt c a b = 0 ∨ zbt c a b = 1) ∧ zsm (zbt c a b) := by
                rcases hc with ⟨hc, rfl⟩ | ⟨hc, rfl⟩ | ⟨hc, rfl⟩
                · refine ⟨by simp, ?_⟩
                  unfold zbt
                  rcases hc with rfl | rfl | rfl
                  · rw [if_neg (by decide), if_neg (by decide), if_neg (by decide), if_neg (by decide), if_neg (by decide), if_pos rfl]; exact zsm_cl _
                  · rw [if_neg (by decide), if_neg (by decide), if_neg (by decide), if_neg (by decide), if_neg (by decide), if_neg (by decide), if_pos rfl]; exact zsm_cl _
                  · rw [if_neg (by decide), if_neg (by decide), if_neg (by decide), if_neg (by decide), if_neg (by decide), if_neg (by decide), if_neg (by decide)]; exact zsm_cl _
                · have := btw_ty c a b (Or.inl hc)
                  exact ⟨fun _ => this, zsm_01 this⟩
                · have := btw_ty c a b (Or.inr ⟨hc, ht.2.1 rfl, ht.1 rfl⟩)
                  exact ⟨fun _ => this, zsm_01 this⟩
              exact ih _ _ _ hq ⟨key.1, ht.2.2⟩ (fun v hv => by
                rcases List.mem_cons.mp hv with e | e
                · rw [e]; exact key.2
                · exact hst v (List.mem_cons_of_mem _ (List.mem_cons_of_mem _ e)))
        by_cases hA : c = 3000 ∨ c = 3001 ∨ c = 3002
        · rw [if_pos hA] at h
          exact two false false (Or.inl ⟨hA, rfl⟩) h
        rw [if_neg hA] at h
        by_cases hB : c = 3003 ∨ c = 3004 ∨ c = 3005
        · rw [if_pos hB] at h
          exact two false true (Or.inr (Or.inl ⟨hB, rfl⟩)) h
        rw [if_neg hB] at h
        by_cases hC : c = 3007 ∨ c = 3008
        · rw [if_pos hC] at h
          exact two true true (Or.inr (Or.inr ⟨hC, rfl⟩)) h
        rw [if_neg hC] at h
        cases h
theorem ZM.wl {s : zS} {n : Nat} {G M : Nat → Nat} {c0 c1 : List Nat} (h : ZM s n G M c0 c1) : c1 = [] ∨ zty 1 c1 [] = some [false] := by
  rcases h.2.2.2.2 with ⟨-, h⟩ | ⟨-, h, -⟩
  · exact Or.inl h
  · exact Or.inr h
theorem ZK.wl {s : zS} {n : Nat} {G M : Nat → Nat} {c0 c1 : List Nat} (h : ZK s n G M c0 c1) : c1 = [] ∨ zty 1 c1 [] = some [false] := by
  rcases h.2.2.2.2 with ⟨-, h⟩ | ⟨h, -⟩
  · exact Or.inl h
  · exact Or.inr h
theorem zlik_sm {c1 : List Nat} (hw : c1 = [] ∨ zty 1 c1 [] = some [false]) {x k p mp q mq : Nat} (hx : x ≤ 9) (hk : k ≤ 9) (hp : p < 7) (hmp : mp < 10) (hq : q < 7) (hmq : mq < 10) : zsm (zlik c1 x k p mp q mq) := by
  unfold zlik
  by_cases h : c1 = []
  · rw [if_pos h]; exact zsm_01 (Or.inr rfl)
  · rw [if_neg h]
    have ht := hw.resolve_left h
    have hs := zev_sm (env := zenvL x k p mp q mq) (fun j => by
      unfold zenvL
      repeat' split
      all_goals exact zsm_nI (by omega)) c1 [] [] _ ht trivial (by simp)
    cases he : zev (zenvL x k p mp q mq) c1 [] with
    | nil => exact zsm_01 (Or.inl rfl)
    | cons y ys => exact hs y (by rw [he]; exact List.mem_cons_self)
def zlm (G M : Nat → Nat) (c1 : List Nat) (p q r : Nat) : Bool := decide (zlk G M c1 p r < zlk G M c1 p q) || (decide (zlk G M c1 p q = zlk G M c1 p r) && decide (q < r))
theorem zsm_sub {x y : Int32} (hx : zsm x) (hy : zsm y) : (0 < x - y ↔ y < x) ∧ (x - y = 0 ↔ x = y) := by
  have h : (x - y).toInt = x.toInt - y.toInt := by
    rw [Int32.toInt_sub, Int.bmod_eq_of_le (by unfold zsm at hx hy; omega) (by unfold zsm at hx hy; omega)]
  refine ⟨?_, ?_⟩
  · rw [Int32.lt_iff_toInt_lt, Int32.lt_iff_toInt_lt, h]
    have : (0 : Int32).toInt = 0 := rfl
    omega
  · rw [← Int32.toInt_inj, ← Int32.toInt_inj, h]
    have : (0 : Int32).toInt = 0 := rfl
    omega
section MORE8
variable {n : Nat} {G M : Nat → Nat} {c0 c1 : List Nat} {s : zS}
theorem zlk_sm (hw : c1 = [] ∨ zty 1 c1 [] = some [false]) (hn : n ≤ 7) (hM : ∀ p, p < n → M p < 10) {p q : Nat} (hp : p < n) (hq : q < n) : zsm (zlk G M c1 p q) :=
  zlik_sm hw (zc2_le _ _ _) (zpc_le _ _) (by omega) (hM p hp) (by omega) (hM q hq)
theorem more8_no (p q : Nat) : f_X8_likesMore (nI p) (nI q) (-1) s = some (1, s) := by
  unfold f_X8_likesMore
  rw [if_neg (fun z => z rfl)]
theorem more8 (hZ : ZM s n G M c0 c1) (hL : ZL8 s n G M c1) {p q r : Nat} (hp : p < n) (hq : q < n) (hr : r < n) (h1 : p ≠ q) (h2 : p ≠ r) : f_X8_likesMore (nI p) (nI q) (nI r) s = some (if zlm G M c1 p q r then 1 else 0, s) := by
  have hn := hZ.1
  unfold f_X8_likesMore f_X8_likesMore_47 f_X8_likesMore_51 f_X8_likesMore_52 zlm
  rw [if_pos (ne_m1 (by omega)), pk_mul, nI_add, rd_88 s (7 * p + q) rfl (by omega), Option.bind_some, nI_add, rd_88 s (7 * p + r) rfl (by omega), Option.bind_some, hL p q hp hq h1, hL p r hp hr h2, zb_eq]
  obtain ⟨e1, e2⟩ := zsm_sub (zlk_sm (G := G) (M := M) hZ.wl hn (fun p hp => (hZ.2.2.1 p hp).2.2) hp hq) (zlk_sm (G := G) (M := M) hZ.wl hn (fun p hp => (hZ.2.2.1 p hp).2.2) hp hr)
  by_cases a : zlk G M c1 p r < zlk G M c1 p q
  · rw [if_pos (e1.mpr a)]; simp [a]
  · rw [if_neg (fun z => a (e1.mp z))]
    by_cases b : zlk G M c1 p q = zlk G M c1 p r
    · rw [if_neg (fun z => z (e2.mpr b))]
      by_cases c : q < r
      · rw [if_neg (nI_ge c (by omega))]; simp [b, c]
      · rw [if_pos (nI_le (by omega) (by omega))]; simp [b, c]
    · rw [if_pos (fun z => b (e2.mp z))]; simp [a, b]
theorem match8 (hZ : ZM s n G M c0 c1) (hT : ZT8 s n G M c0 c1) {p q : Nat} (hp : p < n) (hq : q < n) : f_X8_areMatch (nI p) (nI q) s = some (if zmt G M c0 c1 p q then 1 else 0, s) := by
  have hn := hZ.1
  unfold f_X8_areMatch
  rw [pk_mul, nI_add, rd_89 s (7 * p + q) rfl (by omega), Option.bind_some, hT p q hp hq]
  split <;> simp
/-- those of a row of truths, as bits -/
def zbs (f : Nat → Bool) : Nat → Nat
  | 0 => 0
  | k + 1 => if f k then zbs f k + 2 ^ k else zbs f k
theorem zbs_lt (f : Nat → Bool) : ∀ k, zbs f k < 2 ^ k := by
  intro k
  induction k with
  | zero => exact Nat.zero_lt_one
  | succ k ih => rw [zbs, Nat.pow_succ]; split <;> omega
theorem zbs_bit (f : Nat → Bool) : ∀ k i, (zbs f k).testBit i = (decide (i < k) && f i) := by
  intro k
  induction k with
  | zero => intro i; simp [zbs]
  | succ k ih =>
    intro i
    rw [zbs]
    have hl := zbs_lt f k
    by_cases hf : f k = true
    · rw [if_pos hf, Nat.add_comm]
      rcases Nat.lt_trichotomy i k with h | h | h
      · rw [Nat.testBit_two_pow_add_gt h, ih i]
        simp [h, Nat.lt_succ_of_lt h]
      · subst h
        rw [Nat.testBit_two_pow_add_eq, Nat.testBit_lt_two_pow hl, hf]
        simp
      · have h2 : 2 ^ (k + 1) ≤ 2 ^ i := Nat.pow_le_pow_right (by decide) h
        rw [Nat.pow_succ] at h2
        rw [Nat.testBit_lt_two_pow (by omega)]
        simp; omega
    · rw [if_neg hf, ih i]
      by_cases e : i = k
      · subst e; simp [hf]
      · have : decide (i < k) = decide (i < k + 1) := by by_cases h : i < k <;> simp <;> omega
        rw [this]
theorem ms8 (hZ : ZM s n G M c0 c1) (hT : ZT8 s n G M c0 c1) {p : Nat} (hp : p < n) : f_X8_matchesOf (nI p) s = some (nI (zbs (zmt G M c0 c1 p) n), s) := by
  have hn := hZ.1
  obtain ⟨q', a', g1, g2⟩ := zlp (fun q i (_ : Unit) => f_X8_matchesOf_4 q (nI p) (nI (zbs (zmt G M c0 c1 p) i)) (nI i) s) n (fun _ _ => True)
    (fun q i _ hi _ => by
      refine ⟨(), ?_, trivial⟩
      show f_X8_matchesOf_4 (q + 1) (nI p) (nI (zbs (zmt G M c0 c1 p) i)) (nI i) s = f_X8_matchesOf_4 q (nI p) (nI (zbs (zmt G M c0 c1 p) (i + 1))) (nI (i + 1)) s
      have hl := zbs_lt (zmt G M c0 c1 p) i
      have h7 : 2 ^ i ≤ 2 ^ 7 := Nat.pow_le_pow_right (by decide) (by omega)
      rw [f_X8_matchesOf_4, r77_1, Option.bind_some, hZ.2.1, if_neg (nI_ge hi (by omega)), match8 hZ hT hp hi, zbd_some, zbs]
      by_cases hm : zmt G M c0 c1 p i = true
      · rw [if_pos hm, if_pos hm, if_neg (by decide), f_X8_matchesOf_31, one_shl i (by omega), zb_eq, zb_eq, or_bit i (by omega) _ (by omega) hl, nI_1]
      · rw [if_neg hm, if_neg hm, if_pos rfl, f_X8_matchesOf_31, zb_eq, zb_eq, or_zero, nI_1]) n 0 zFU () (by omega) (by show n < 5000; omega) trivial
  have g1' : f_X8_matchesOf (nI p) s = f_X8_matchesOf_4 (q' + 1) (nI p) (nI (zbs (zmt G M c0 c1 p) n)) (nI n) s := g1
  rw [g1', f_X8_matchesOf_4, r77_1, Option.bind_some, hZ.2.1, if_pos (nI_le (Nat.le_refl _) (by omega))]
end MORE8
