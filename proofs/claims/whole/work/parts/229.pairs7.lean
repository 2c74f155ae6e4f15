/-- a pairing packed, four bits a person -/
def zpe : Option Nat → Nat
  | none => 0
  | some k => k + 1
def zpk (S : Nat) (w : Nat → Option Nat) : Nat → Nat
  | 0 => 0
  | i + 1 => if S.testBit i then zpk S w i + zpe (w i) * 2 ^ (4 * i) else zpk S w i
theorem zpe_le {n S : Nat} {w : Nat → Option Nat} (hn : n ≤ 7) (h : zvw n S w) (p : Nat) : zpe (w p) ≤ 7 := by
  cases hw : w p with
  | none => exact Nat.zero_le _
  | some q => have := (h p q hw).2.1; show q + 1 ≤ 7; omega
theorem zpk_lt {S : Nat} {w : Nat → Option Nat} (h : ∀ p, zpe (w p) ≤ 7) : ∀ i, zpk S w i < 2 ^ (4 * i) := by
  intro i
  induction i with
  | zero => exact Nat.zero_lt_one
  | succ i ih =>
    have h1 := h i
    rw [zpk, show 4 * (i + 1) = 4 * i + 4 by omega, Nat.pow_add]
    have h2 : zpe (w i) * 2 ^ (4 * i) ≤ 7 * 2 ^ (4 * i) := Nat.mul_le_mul_right _ h1
    split <;> omega
theorem zpk_dig {S : Nat} {w : Nat → Option Nat} (h : ∀ p, zpe (w p) ≤ 7) : ∀ i p, p < i → zpk S w i / 2 ^ (4 * p) % 16 = if S.testBit p then zpe (w p) else 0 := by
  intro i
  induction i with
  | zero => intro p hp; omega
  | succ i ih =>
    intro p hp
    have hl := zpk_lt (S := S) h i
    have h1 := h i
    rw [zpk]
    by_cases e : p = i
    · subst e
      by_cases hb : S.testBit p = true
      · rw [if_pos hb, if_pos hb, Nat.add_mul_div_right _ _ (Nat.two_pow_pos _), Nat.div_eq_of_lt hl, Nat.zero_add, Nat.mod_eq_of_lt (by omega)]
      · rw [if_neg hb, if_neg hb, Nat.div_eq_of_lt hl]
    · have ihp := ih p (by omega)
      by_cases hb : S.testBit i = true
      · rw [if_pos hb, ← ihp]
        obtain ⟨j, rfl⟩ : ∃ j, i = p + 1 + j := ⟨i - (p + 1), by omega⟩
        have e2 : zpe (w (p + 1 + j)) * 2 ^ (4 * (p + 1 + j)) = (16 * (zpe (w (p + 1 + j)) * 2 ^ (4 * j))) * 2 ^ (4 * p) := by
          rw [show 4 * (p + 1 + j) = 4 * j + (4 + 4 * p) by omega, Nat.pow_add, Nat.pow_add, show (2 : Nat) ^ 4 = 16 from rfl]
          simp only [Nat.mul_assoc, Nat.mul_left_comm]
        rw [e2, Nat.add_mul_div_right _ _ (Nat.two_pow_pos _), Nat.add_mul_mod_self_left]
      · rw [if_neg hb]; exact ihp
theorem or_add {a b i : Nat} (h : a < 2 ^ i) : a ||| b * 2 ^ i = a + b * 2 ^ i := by
  rw [Nat.or_comm, Nat.mul_comm, ← Nat.two_pow_add_eq_or_of_lt h, Nat.add_comm]
theorem oI_1 (w : Option Nat) : oI w + (1 : Int32) = nI (zpe w) := by
  cases w with
  | none => decide
  | some k => exact nI_1 k
theorem nI_zpe (w : Option Nat) : nI (zpe w) - (1 : Int32) = oI w := by
  cases w with
  | none => decide
  | some k => exact nI_pred k
theorem shl_n {a k : Nat} (hk : k < 32) (h : a * 2 ^ k < 2 ^ 32) : zo_shl (nI a) (nI k) = nI (a * 2 ^ k) := pk_shlN _ k (s_l k hk) h
theorem ush_n {a k : Nat} (hk : k < 32) (h : a < 2 ^ 32) : zo_ush (nI a) (nI k) = nI (a / 2 ^ k) := pk_ushrN h _ k (s_u k hk)
set_option maxRecDepth 20000 in
theorem clr7 : ∀ q, q < 7 → ∀ F, F < 128 → nI F &&& ((zo_shl (1 : Int32) (nI q)) ^^^ (-1 : Int32)) = nI (F &&& (127 - 2 ^ q)) := by decide +kernel
theorem msk7 : ∀ q, q < 7 → ∀ i, i < 7 → (127 - 2 ^ q).testBit i = decide (i ≠ q) := by decide +kernel
theorem clr_bit {F q i : Nat} (hq : q < 7) (hi : i < 7) : (F &&& (127 - 2 ^ q)).testBit i = (F.testBit i && decide (i ≠ q)) := by
  rw [Nat.testBit_and, msk7 q hq i hi]
theorem clr_lt (F q : Nat) : F &&& (127 - 2 ^ q) < 128 := Nat.lt_of_le_of_lt Nat.and_le_right (Nat.lt_of_le_of_lt (Nat.sub_le _ _) (by decide))
/-- the class's pairings -/
def JH7 (s : zS) (n S : Nat) (acc : List (Nat → Option Nat)) : Prop := s.1 60 8 = nI acc.length ∧ ∀ k, k < acc.length → s.1 65 k = nI (zpk S (acc.getD k zno) n)
def PF7 (s t : zS) : Prop := zk_k [60, 64, 65] s t ∧ ∀ j, j ≠ 8 → t.1 60 j = s.1 60 j
theorem PF7.rf {s : zS} : PF7 s s := ⟨zk_k.rf, fun _ _ => rfl⟩
theorem PF7.tr {s t u : zS} (h1 : PF7 s t) (h2 : PF7 t u) : PF7 s u := ⟨h1.1.tr h2.1, fun j hj => (h2.2 j hj).trans (h1.2 j hj)⟩
theorem PF7.i {s t : zS} (h : PF7 s t) {j : Nat} {v : Int32} : PF7 s (zs_i t 64 j v) := ⟨h.1.i (by simp), fun j hj => by rw [zs_i_n _ _ _ _ _ (by decide)]; exact h.2 j hj⟩
/-- what is tried -/
def ZTR (s : zS) (S p : Nat) (w : Nat → Option Nat) : Prop := ∀ j, j < 7 → ((j < p ∧ S.testBit j = true) ∨ w j ≠ none) → s.1 64 j = oI (w j)
section PAIR7
variable {n : Nat} {G M : Nat → Nat} {c0 c1 : List Nat} {S wish : Nat}
theorem pack7 {s : zS} (hK : ZK s n G M c0 c1) (hS : S < 1024) {w : Nat → Option Nat} (hw : ∀ p, zpe (w p) ≤ 7) (ht : ∀ j, j < n → S.testBit j = true → s.1 64 j = oI (w j)) : f_X0_packed (nI S) s = some (nI (zpk S w n), s) := by
  have hn := hK.1
  obtain ⟨q', u, g1, -⟩ := zlp (fun q i (_ : Unit) => f_X0_packed_4 q (nI S) (nI (zpk S w i)) (nI i) s) n (fun _ _ => True)
    (fun q i _ hi _ => by
      refine ⟨(), ?_, trivial⟩
      show f_X0_packed_4 (q + 1) (nI S) (nI (zpk S w i)) (nI i) s = f_X0_packed_4 q (nI S) (nI (zpk S w (i + 1))) (nI (i + 1)) s
      have h1 := hw i
      have hl := zpk_lt (S := S) hw i
      have hb2 : zpe (w i) * 2 ^ (4 * i) < 2 ^ 32 := by
        have h2 : 2 ^ (4 * i) ≤ 2 ^ 24 := Nat.pow_le_pow_right (by decide) (by omega)
        have h3 : zpe (w i) * 2 ^ (4 * i) ≤ 7 * 2 ^ 24 := Nat.mul_le_mul h1 h2
        omega
      rw [f_X0_packed_4, hK.2.1, if_neg (nI_ge hi (by omega)), ush_tb (by omega) hS, zpk]
      by_cases hb : S.testBit i = true
      · rw [if_pos hb, if_pos hb, if_neg (fun z => z rfl), rd_64 s i rfl (by omega), Option.bind_some, ht i hi hb, oI_1, pk_mul, shl_n (by omega) hb2, nI_or, or_add hl, zb_eq, f_X0_packed_39, zb_eq, nI_1]
      · rw [if_neg hb, if_neg hb, if_pos (by decide), f_X0_packed_39, zb_eq, nI_1]) n 0 zFU () (by omega) (by show n < 5000; omega) trivial
  have g1' : f_X0_packed (nI S) s = f_X0_packed_4 (q' + 1) (nI S) (nI (zpk S w n)) (nI n) s := g1
  rw [g1', f_X0_packed_4, hK.2.1, if_pos (nI_le (Nat.le_refl _) (by omega))]
theorem part7 {s : zS} (hn : n ≤ 7) {acc : List (Nat → Option Nat)} (hH : JH7 s n S acc) (hl : acc.length ≤ 232) (hv : ∀ x ∈ acc, zvw n S x) {k p : Nat} (hp : p < n) (hk : k < acc.length) : f_X0_partnerIn (nI k) (nI p) s = some (oI (acc.getD k zno p), s) := by
  have hm : zvw n S (acc.getD k zno) := hv _ (gd_mem acc zno hk)
  have he := fun q => zpe_le hn hm q
  have hlt := zpk_lt (S := S) he n
  have h28 : 2 ^ (4 * n) ≤ 2 ^ 28 := Nat.pow_le_pow_right (by decide) (by omega)
  unfold f_X0_partnerIn f_X0_partnerIn_34
  rw [hH.1, if_neg (nI_ge hk (by omega)), if_neg (nI_ge (by omega) (by omega)), rd_65 s k rfl (by omega), Option.bind_some, hH.2 k hk, pk_mul, ush_n (by omega) (by omega), pk_andN (Nat.lt_of_le_of_lt (Nat.div_le_self _ _) (by omega)) 4 (by decide), show (2 : Nat) ^ 4 = 16 from rfl, zpk_dig he n p hp]
  by_cases hb : S.testBit p = true
  · rw [if_pos hb, nI_zpe]
  · rw [if_neg hb]
    have : acc.getD k zno p = none := by
      cases hw : acc.getD k zno p with
      | none => rfl
      | some q => exact absurd (hm p q hw).2.2.2.2 hb
    rw [this]
    exact congrArg (fun x => some (x, s)) (nI_zpe none)
theorem part7_no {s : zS} {acc : List (Nat → Option Nat)} (hH : JH7 s n S acc) {x : Int32} (v : Int32) (hx : nI acc.length ≤ x) : f_X0_partnerIn x v s = some (-1, s) := by
  unfold f_X0_partnerIn f_X0_partnerIn_33 f_X0_partnerIn_34
  rw [hH.1, if_pos hx]
theorem pr7 (hS : S < 128) (hwish : wish ≤ 232) : ∀ (k : Nat) (w : Nat → Option Nat) (acc : List (Nat → Option Nat)) (F : Nat) (s : zS) (d : Nat), k ≤ n → k < d → ZK s n G M c0 c1 → JM s n G M c0 c1 → ZTR s S (n - k) w → zvw n S w → F < 128 → (∀ j, n - k ≤ j → j < n → F.testBit j = (S.testBit j && (w j).isNone)) → JH7 s n S acc → s.1 60 9 = nI wish → acc.length ≤ wish →
    (∀ x ∈ acc, zvw n S x) → ∃ s', f_X0_pair d (nI (n - k)) (nI S) (nI F) s = some ((), s') ∧ JH7 s' n S (zpg n G M c0 c1 S wish k w acc) ∧ (∀ j, j < 7 → (j < n - k ∨ F.testBit j = false) → s'.1 64 j = s.1 64 j) ∧ PF7 s s' := by
  intro k
  induction k with
  | zero =>
    intro w acc F s d hk hd hK hM hT hv hF hFb hH hq hle hall
    obtain ⟨d, rfl⟩ : ∃ r, d = r + 1 := ⟨d - 1, by omega⟩
    have hn := hK.1
    rw [f_X0_pair, g_X0_pair, hH.1, hq, zpg]
    by_cases hf : wish ≤ acc.length
    · rw [if_pos (nI_le hf (by omega)), if_pos hf]
      exact ⟨s, rfl, hH, fun _ _ _ => rfl, PF7.rf⟩
    · have he := fun q => zpe_le hn hv q
      rw [if_neg (nI_ge (by omega) (by omega)), if_neg hf, if_pos (nI_lt (by omega) (by omega)), hK.2.1, Nat.sub_zero, if_pos (nI_le (Nat.le_refl _) (by omega)), f_X0_pair_39, hold7 zd_64 zn_64 hK hM (by omega) (w := w) (fun p hp hb => ⟨hT p (by omega) (Or.inl ⟨by omega, hb⟩), fun q hq => ⟨(hv p q hq).2.1, (hv p q hq).2.2.1⟩⟩), zbd_some]
      by_cases hh : zhd n G M c0 c1 S w = true
      · rw [if_pos hh, if_pos hh, if_neg (by decide), pack7 hK (by omega) he (fun j hj hb => hT j (by omega) (Or.inl ⟨by omega, hb⟩)), zbd_some, hH.1, wr_65 s acc.length rfl (by omega), Option.bind_some, zb_eq, zs_i_n _ _ _ _ _ (by decide : (60 : Nat) ≠ 65), hH.1, nI_1]
        refine ⟨_, rfl, ⟨by rw [zs_i_v]; simp, fun i hi => ?_⟩, fun j _ _ => by rw [zs_i_n _ _ _ _ _ (by decide), zs_i_n _ _ _ _ _ (by decide)], (zk_k.rf.i (by simp)).i (by simp), fun j hj => by rw [zs_i_o _ _ _ _ _ hj, zs_i_n _ _ _ _ _ (by decide)]⟩
        simp only [List.length_append, List.length_singleton] at hi
        rw [zs_i_n _ _ _ _ _ (by decide)]
        by_cases e : i = acc.length
        · subst e; rw [gd_eq, zs_i_v]
        · rw [gd_lt _ _ _ (by omega), zs_i_o _ _ _ _ _ e]; exact hH.2 i (by omega)
      · rw [if_neg hh, if_neg hh, if_pos rfl]
        exact ⟨s, rfl, hH, fun _ _ _ => rfl, PF7.rf⟩
  | succ k ih =>
    intro w acc F s d hk hd hK hM hT hv hF hFb hH hq hle hall
    obtain ⟨d, rfl⟩ : ∃ r, d = r + 1 := ⟨d - 1, by omega⟩
    have hn := hK.1
    rw [f_X0_pair, g_X0_pair, hH.1, hq, zpg]
    by_cases hf : wish ≤ acc.length
    · rw [if_pos (nI_le hf (by omega)), if_pos hf]
      exact ⟨s, rfl, hH, fun _ _ _ => rfl, PF7.rf⟩
    have en : n - (k + 1) + 1 = n - k := by omega
    have hFp := hFb (n - (k + 1)) (Nat.le_refl _) (by omega)
    rw [if_neg (nI_ge (by omega) (by omega)), if_neg hf, if_pos (nI_lt (by omega) (by omega)), hK.2.1, if_neg (nI_ge (by omega) (by omega)), if_pos (nI_lt (by omega) (by omega)), ush_tb (by omega) (by omega), ← hFp]
    by_cases hb : F.testBit (n - (k + 1)) = true
    · have hSp : S.testBit (n - (k + 1)) = true ∧ w (n - (k + 1)) = none := by
        rw [hb] at hFp
        have := hFp.symm
        simp only [Bool.and_eq_true] at this
        exact ⟨this.1, Option.isNone_iff_eq_none.mp this.2⟩
      rw [if_pos hb, if_pos hb, if_pos (by decide), zb_eq, clr7 _ (by omega) _ hF, wr_64 s (n - (k + 1)) rfl (by omega), Option.bind_some, nI_1, en]
      generalize hF2 : F &&& (127 - 2 ^ (n - (k + 1))) = F2
      have hF2l : F2 < 128 := by rw [← hF2]; exact clr_lt _ _
      have hF2b : ∀ j, n - k ≤ j → j < n → F2.testBit j = (S.testBit j && (w j).isNone) := fun j h1 h2 => by
        rw [← hF2, clr_bit (by omega) (by omega), hFb j (by omega) h2, decide_eq_true (by omega), Bool.and_true]
      have hF2o : ∀ j, j < 7 → F.testBit j = false → F2.testBit j = false := fun j h1 h2 => by rw [← hF2, clr_bit (by omega) h1, h2, Bool.false_and]
      have k0 : PF7 s (zs_i s 64 (n - (k + 1)) (-1)) := PF7.rf.i
      have hT0 : ZTR (zs_i s 64 (n - (k + 1)) (-1)) S (n - k) w := fun j hj h => by
        by_cases e : j = n - (k + 1)
        · subst e; rw [zs_i_v, hSp.2]; rfl
        · rw [zs_i_o _ _ _ _ _ e]
          refine hT j hj ?_
          rcases h with ⟨h1, h2⟩ | h
          · exact Or.inl ⟨by omega, h2⟩
          · exact Or.inr h
      obtain ⟨s1, a1, a2, a3, a4⟩ := ih w acc F2 (zs_i s 64 (n - (k + 1)) (-1)) d (by omega) (by omega) (hK.keep k0.1 (by decide)) (hM.keep k0.1 (by decide)) hT0 hv hF2l hF2b ⟨by rw [zs_i_n _ _ _ _ _ (by decide)]; exact hH.1, fun i hi => by rw [zs_i_n _ _ _ _ _ (by decide)]; exact hH.2 i hi⟩ (by rw [zs_i_n _ _ _ _ _ (by decide)]; exact hq) hle hall
      rw [a1, zbd_some, zb_eq]
      -- the others, one by one
      have loop : ∀ (j q f : Nat) (acc : List (Nat → Option Nat)) (t : zS), q + j = n → j < f → n - k ≤ q → PF7 s t → (∀ i, i < 7 → (i < n - (k + 1) ∨ F.testBit i = false) → t.1 64 i = s.1 64 i) → JH7 t n S acc → acc.length ≤ wish → (∀ x ∈ acc, zvw n S x) →
          ∃ s', f_X0_pair_125 (f_X0_pair d) f (nI (n - (k + 1))) (nI S) (nI F2) (nI q) t = some ((), s') ∧ JH7 s' n S (zfd (fun q acc => if S.testBit q && ((w q).isNone && zmt G M c0 c1 (n - (k + 1)) q) then zpg n G M c0 c1 S wish k (zup w (n - (k + 1)) q) acc else acc) j q acc) ∧ (∀ i, i < 7 → (i < n - (k + 1) ∨ F.testBit i = false) → s'.1 64 i = s.1 64 i) ∧ PF7 s s' := by
        intro j
        induction j with
        | zero =>
          intro q f acc t hj hf hlo hFr ht hH1 hle1 hall1
          obtain ⟨f, rfl⟩ : ∃ r, f = r + 1 := ⟨f - 1, by omega⟩
          have hK1 := hK.keep hFr.1 (by decide)
          rw [f_X0_pair_125, hK1.2.1, if_pos (nI_le (by omega) (by omega))]
          exact ⟨t, rfl, hH1, ht, hFr⟩
        | succ j ihj =>
          intro q f acc t hj hf hlo hFr ht hH1 hle1 hall1
          obtain ⟨f, rfl⟩ : ∃ r, f = r + 1 := ⟨f - 1, by omega⟩
          have hK1 := hK.keep hFr.1 (by decide)
          have hM1 := hM.keep hFr.1 (by decide)
          have step : ∀ (acc2 : List (Nat → Option Nat)) (t2 : zS), (if S.testBit q && ((w q).isNone && zmt G M c0 c1 (n - (k + 1)) q) then zpg n G M c0 c1 S wish k (zup w (n - (k + 1)) q) acc else acc) = acc2 → PF7 s t2 → (∀ i, i < 7 → (i < n - (k + 1) ∨ F.testBit i = false) → t2.1 64 i = s.1 64 i) → JH7 t2 n S acc2 → acc2.length ≤ wish → (∀ x ∈ acc2, zvw n S x) →
              ∃ s', f_X0_pair_191 (f_X0_pair d) (f_X0_pair_125 (f_X0_pair d) f) (nI (n - (k + 1))) (nI S) (nI F2) (nI q) t2 = some ((), s') ∧ JH7 s' n S (zfd (fun q acc => if S.testBit q && ((w q).isNone && zmt G M c0 c1 (n - (k + 1)) q) then zpg n G M c0 c1 S wish k (zup w (n - (k + 1)) q) acc else acc) (j + 1) q acc) ∧ (∀ i, i < 7 → (i < n - (k + 1) ∨ F.testBit i = false) → s'.1 64 i = s.1 64 i) ∧ PF7 s s' := by
            intro acc2 t2 e hF2 hw2 hH2 hle2 hall2
            rw [f_X0_pair_191, zb_eq, nI_1]
            obtain ⟨s', g1, g2, g3⟩ := ihj (q + 1) f acc2 t2 (by omega) (by omega) (by omega) hF2 hw2 hH2 hle2 hall2
            refine ⟨s', g1, ?_, g3⟩
            rw [zfd]
            simp only [e]
            exact g2
          have hbq := hF2b q (by omega) (by omega)
          rw [f_X0_pair_125, hK1.2.1, if_neg (nI_ge (by omega) (by omega)), ush_tb (by omega) (by omega)]
          by_cases hb2 : F2.testBit q = true
          · have hSq : S.testBit q = true ∧ w q = none := by
              rw [hb2] at hbq
              have := hbq.symm
              simp only [Bool.and_eq_true] at this
              exact ⟨this.1, Option.isNone_iff_eq_none.mp this.2⟩
            have hFq : F.testBit q = true := by
              cases hh : F.testBit q with
              | true => rfl
              | false => rw [hF2o q (by omega) hh] at hb2; cases hb2
            rw [if_pos hb2, if_neg (fun z => z rfl), km7 hn hM1 (by omega) (by omega), zbd_some]
            by_cases hm : zmt G M c0 c1 (n - (k + 1)) q = true
            · rw [if_pos hm, if_neg (by decide), wr_64 t (n - (k + 1)) rfl (by omega), Option.bind_some, wr_64 _ q rfl (by omega), Option.bind_some, nI_1, en, clr7 _ (by omega) _ hF2l]
              have hv2 := zvw_up hv (p := n - (k + 1)) (q := q) (by omega) (by omega) (by omega) hSp.2 hSq.2 hSp.1 hSq.1
              have k2 : PF7 t (zs_i (zs_i t 64 (n - (k + 1)) (nI q)) 64 q (nI (n - (k + 1)))) := PF7.rf.i.i
              obtain ⟨t2, b1, b2, b3, b4⟩ := ih (zup w (n - (k + 1)) q) acc (F2 &&& (127 - 2 ^ q)) (zs_i (zs_i t 64 (n - (k + 1)) (nI q)) 64 q (nI (n - (k + 1)))) d (by omega) (by omega) (hK1.keep k2.1 (by decide)) (hM1.keep k2.1 (by decide)) (fun i hi h => by
                unfold zup at h ⊢
                by_cases e1 : i = n - (k + 1)
                · rw [if_pos e1, zs_i_o _ _ _ _ _ (by omega), e1, zs_i_v]; rfl
                · rw [if_neg e1] at h ⊢
                  by_cases e2 : i = q
                  · rw [if_pos e2, e2, zs_i_v]; rfl
                  · rw [if_neg e2] at h ⊢
                    rw [zs_i_o _ _ _ _ _ e2, zs_i_o _ _ _ _ _ e1]
                    have hfree : i < n - (k + 1) ∨ F.testBit i = false := by
                      rcases h with ⟨h1, h2⟩ | h
                      · exact Or.inl (by omega)
                      · by_cases hlt : i < n - (k + 1)
                        · exact Or.inl hlt
                        · refine Or.inr ?_
                          have hin : i < n := by
                            cases hw : w i with
                            | none => exact absurd hw h
                            | some r => exact (hv i r hw).1
                          rw [hFb i (by omega) hin]
                          cases hw : w i with
                          | none => exact absurd hw h
                          | some r => simp
                    rw [ht i hi hfree]
                    refine hT i hi ?_
                    rcases h with ⟨h1, h2⟩ | h
                    · exact Or.inl ⟨by omega, h2⟩
                    · exact Or.inr h) hv2 (clr_lt _ _) (fun i h1 h2 => by
                rw [clr_bit (by omega) (by omega), hF2b i h1 h2]
                unfold zup
                rw [if_neg (by omega)]
                by_cases e : i = q
                · simp [e]
                · simp [e]) ⟨by rw [zs_i_n _ _ _ _ _ (by decide), zs_i_n _ _ _ _ _ (by decide)]; exact hH1.1, fun i hi => by rw [zs_i_n _ _ _ _ _ (by decide), zs_i_n _ _ _ _ _ (by decide)]; exact hH1.2 i hi⟩ (by rw [zs_i_n _ _ _ _ _ (by decide), zs_i_n _ _ _ _ _ (by decide), hFr.2 9 (by decide)]; exact hq) hle1 hall1
              rw [b1, zbd_some]
              have ok := zpg_ok (G := G) (M := M) (c0 := c0) (c1 := c1) (wish := wish) k (zup w (n - (k + 1)) q) acc (by omega) hv2 ⟨hle1, hall1⟩
              refine step _ t2 (by rw [hSq.1, hSq.2, hm]; rfl) (hFr.tr (k2.tr b4)) (fun i hi h => ?_) b2 ok.1 ok.2
              have e1 : i ≠ n - (k + 1) := fun z => by
                rcases h with h | h
                · omega
                · rw [z, hb] at h; cases h
              have e2 : i ≠ q := fun z => by
                rcases h with h | h
                · omega
                · rw [z, hFq] at h; cases h
              rw [b3 i hi (by
                rcases h with h | h
                · exact Or.inl (by omega)
                · refine Or.inr ?_
                  rw [clr_bit (by omega) hi, hF2o i hi h, Bool.false_and]), zs_i_o _ _ _ _ _ e2, zs_i_o _ _ _ _ _ e1]
              exact ht i hi h
            · rw [if_neg hm, if_pos rfl]
              exact step acc t (by simp [hm]) hFr ht hH1 hle1 hall1
          · rw [if_neg hb2, if_pos (by decide)]
            refine step acc t ?_ hFr ht hH1 hle1 hall1
            simp only [Bool.not_eq_true] at hb2
            rw [hb2] at hbq
            rw [← Bool.and_assoc, ← hbq]
            simp
      have ok := zpg_ok (G := G) (M := M) (c0 := c0) (c1 := c1) (wish := wish) k w acc (by omega) hv ⟨hle, hall⟩
      obtain ⟨s', g1, g2, g3, g4⟩ := loop k (n - k) zFU _ s1 (by omega) (by show k < 5000; omega) (Nat.le_refl _) (k0.tr a4) (fun i hi h => by
        have e1 : i ≠ n - (k + 1) := fun z => by
          rcases h with h | h
          · omega
          · rw [z, hb] at h; cases h
        rw [a3 i hi (by
          rcases h with h | h
          · exact Or.inl (by omega)
          · exact Or.inr (hF2o i hi h)), zs_i_o _ _ _ _ _ e1]) a2 ok.1 ok.2
      exact ⟨s', g1, g2, g3, g4⟩
    · rw [if_neg hb, if_neg hb, if_neg (fun z => z rfl), nI_1, en]
      obtain ⟨s1, a1, a2, a3, a4⟩ := ih w acc F s d (by omega) (by omega) hK hM (fun j hj h => by
        by_cases e : j = n - (k + 1)
        · subst e
          refine hT _ hj (Or.inr ?_)
          rcases h with ⟨-, h2⟩ | h
          · intro hw
            rw [h2, hw] at hFp
            exact hb hFp
          · exact h
        · refine hT j hj ?_
          rcases h with ⟨h1, h2⟩ | h
          · exact Or.inl ⟨by omega, h2⟩
          · exact Or.inr h) hv hF (fun j h1 h2 => hFb j (by omega) h2) hH hq hle hall
      rw [a1, zbd_some]
      refine ⟨s1, rfl, a2, fun j h7 hj => a3 j h7 (by
        rcases hj with h | h
        · exact Or.inl (by omega)
        · exact Or.inr h), a4⟩
end PAIR7
