/-- pairings in their order -/
def zup (w : Nat → Option Nat) (p q : Nat) : Nat → Option Nat := fun j => if j = p then some q else if j = q then some p else w j
def zpg (n : Nat) (G M : Nat → Nat) (c0 c1 : List Nat) (S wish : Nat) : Nat → (Nat → Option Nat) → List (Nat → Option Nat) → List (Nat → Option Nat)
  | 0, w, acc => if wish ≤ acc.length then acc else if zhd n G M c0 c1 S w then acc ++ [w] else acc
  | k + 1, w, acc => if wish ≤ acc.length then acc else
    if S.testBit (n - (k + 1)) && (w (n - (k + 1))).isNone then
      zfd (fun q acc => if S.testBit q && ((w q).isNone && zmt G M c0 c1 (n - (k + 1)) q) then zpg n G M c0 c1 S wish k (zup w (n - (k + 1)) q) acc else acc) k (n - k) (zpg n G M c0 c1 S wish k w acc)
    else zpg n G M c0 c1 S wish k w acc
def zvw (n S : Nat) (w : Nat → Option Nat) : Prop := ∀ p q, w p = some q → p < n ∧ q < n ∧ q ≠ p ∧ w q = some p ∧ S.testBit p = true
def zno : Nat → Option Nat := fun _ => none
theorem zvw_no (n S : Nat) : zvw n S zno := fun p q h => by cases h
theorem zvw_up {n S : Nat} {w : Nat → Option Nat} (h : zvw n S w) {p q : Nat} (hp : p < n) (hq : q < n) (hpq : p ≠ q) (wp : w p = none) (wq : w q = none) (sp : S.testBit p = true) (sq : S.testBit q = true) : zvw n S (zup w p q) := by
  intro a b hab
  unfold zup at hab ⊢
  by_cases e1 : a = p
  · rw [if_pos e1] at hab
    cases hab
    subst e1
    refine ⟨hp, hq, Ne.symm hpq, ?_, sp⟩
    rw [if_neg (Ne.symm hpq), if_pos rfl]
  · rw [if_neg e1] at hab
    by_cases e2 : a = q
    · rw [if_pos e2] at hab
      cases hab
      subst e2
      exact ⟨hq, hp, hpq, by rw [if_pos rfl], sq⟩
    · rw [if_neg e2] at hab
      obtain ⟨h1, h2, h3, h4, h5⟩ := h a b hab
      refine ⟨h1, h2, h3, ?_, h5⟩
      rw [if_neg (fun z => by subst z; rw [wp] at h4; cases h4), if_neg (fun z => by subst z; rw [wq] at h4; cases h4)]
      exact h4
theorem zfd_Pi {A : Type} {g : Nat → A → A} (P : A → Prop) : ∀ (k i : Nat) (a : A), (∀ j b, i ≤ j → j < i + k → P b → P (g j b)) → P a → P (zfd g k i a) := by
  intro k
  induction k with
  | zero => intro i a _ h; exact h
  | succ k ih => intro i a hg h; exact ih (i + 1) _ (fun j b h1 h2 hb => hg j b (by omega) (by omega) hb) (hg i a (Nat.le_refl _) (by omega) h)
section PAIRP
variable {n : Nat} {G M : Nat → Nat} {c0 c1 : List Nat} {S wish : Nat}
theorem zpg_ok : ∀ (k : Nat) (w : Nat → Option Nat) (acc : List (Nat → Option Nat)), k ≤ n → zvw n S w → (acc.length ≤ wish ∧ ∀ x ∈ acc, zvw n S x) → ((zpg n G M c0 c1 S wish k w acc).length ≤ wish ∧ ∀ x ∈ zpg n G M c0 c1 S wish k w acc, zvw n S x) := by
  intro k
  induction k with
  | zero =>
    intro w acc hk hw ha
    rw [zpg]
    split
    · exact ha
    · split
      · refine ⟨by simp; omega, fun x hx => ?_⟩
        rcases List.mem_append.mp hx with h | h
        · exact ha.2 x h
        · rw [List.mem_singleton.mp h]; exact hw
      · exact ha
  | succ k ih =>
    intro w acc hk hw ha
    rw [zpg]
    split
    · exact ha
    · split
      · rename_i hc
        simp only [Bool.and_eq_true] at hc
        refine zfd_Pi (fun acc : List (Nat → Option Nat) => acc.length ≤ wish ∧ ∀ x ∈ acc, zvw n S x) k (n - k) _ (fun q acc h1 h2 hacc => ?_) (ih w acc (by omega) hw ha)
        by_cases hq : (S.testBit q && ((w q).isNone && zmt G M c0 c1 (n - (k + 1)) q)) = true
        · rw [if_pos hq]
          simp only [Bool.and_eq_true] at hq
          refine ih _ acc (by omega) (zvw_up hw (by omega) (by omega) (by omega) ?_ ?_ hc.1 hq.1) hacc
          · exact Option.isNone_iff_eq_none.mp hc.2
          · exact Option.isNone_iff_eq_none.mp hq.2.1
        · rw [if_neg hq]; exact hacc
      · exact ih w acc (by omega) hw ha
end PAIRP
/-- the reference's pairings -/
def JH8 (s : zS) (acc : List (Nat → Option Nat)) : Prop := s.1 76 32 = nI acc.length ∧ ∀ k, k < acc.length → ∀ j, j < 7 → s.1 92 (7 * k + j) = oI (acc.getD k zno j)
def PF8 (s t : zS) : Prop := zk_k [76, 91, 92] s t ∧ ∀ j, j ≠ 32 → t.1 76 j = s.1 76 j
theorem PF8.rf {s : zS} : PF8 s s := ⟨zk_k.rf, fun _ _ => rfl⟩
theorem PF8.tr {s t u : zS} (h1 : PF8 s t) (h2 : PF8 t u) : PF8 s u := ⟨h1.1.tr h2.1, fun j hj => (h2.2 j hj).trans (h1.2 j hj)⟩
theorem PF8.i {s t : zS} (h : PF8 s t) {j : Nat} {v : Int32} : PF8 s (zs_i t 91 j v) := ⟨h.1.i (by simp), fun j hj => by rw [zs_i_n _ _ _ _ _ (by decide)]; exact h.2 j hj⟩
theorem PF8.m {s t : zS} (h : PF8 s t) : zk_m [91, 92] s t := ⟨h.1, h.2 5 (by decide), h.2 13 (by decide), h.2 14 (by decide), h.2 29 (by decide)⟩
theorem pr8_33 (q : Int32 → Int32 → zS → Option (Unit × zS)) {acc : List (Nat → Option Nat)} {w : Nat → Option Nat} (hl : acc.length < 232) : ∀ (k j f : Nat) (s : zS), j + k = 7 → k < f → (∀ j, j < 7 → s.1 91 j = oI (w j)) → JH8 s acc → (∀ i, i < j → s.1 92 (7 * acc.length + i) = oI (w i)) → ∃ s', f_X8_goesPair_33 q f (nI j) s = some ((), s') ∧ JH8 s' (acc ++ [w]) ∧ zk_k [76, 92] s s' ∧ ∀ j, j ≠ 32 → s'.1 76 j = s.1 76 j := by
  intro k
  induction k with
  | zero =>
    intro j f s hj hf hw hH hd
    obtain ⟨f, rfl⟩ : ∃ r, f = r + 1 := ⟨f - 1, by omega⟩
    rw [f_X8_goesPair_33, if_pos (nI_le (by omega) (by omega)), zb_eq, hH.1, nI_1]
    refine ⟨_, rfl, ⟨by rw [zs_i_v]; simp, fun i hi j2 hj2 => ?_⟩, zk_k.rf.i (by simp), fun j hj => zs_i_o _ _ _ _ _ hj⟩
    simp only [List.length_append, List.length_singleton] at hi
    rw [zs_i_n _ _ _ _ _ (by decide)]
    by_cases e : i = acc.length
    · subst e; rw [gd_eq]; exact hd j2 (by omega)
    · rw [gd_lt _ _ _ (by omega)]; exact hH.2 i (by omega) j2 hj2
  | succ k ih =>
    intro j f s hj hf hw hH hd
    obtain ⟨f, rfl⟩ : ∃ r, f = r + 1 := ⟨f - 1, by omega⟩
    rw [f_X8_goesPair_33, if_neg (nI_ge (by omega) (by omega)), rd_91 s j rfl (by omega), Option.bind_some, hH.1, wr_92 s (7 * acc.length + j) (by rw [pk_mul, nI_add]) (by omega), Option.bind_some, zb_eq, nI_1, hw j (by omega)]
    obtain ⟨s', g1, g2, g3, g4⟩ := ih (j + 1) f (zs_i s 92 (7 * acc.length + j) (oI (w j))) (by omega) (by omega) (fun i hi => by rw [zs_i_n _ _ _ _ _ (by decide)]; exact hw i hi) ⟨by rw [zs_i_n _ _ _ _ _ (by decide)]; exact hH.1, fun i hi j2 hj2 => by rw [zs_i_o _ _ _ _ _ (by omega)]; exact hH.2 i hi j2 hj2⟩ (fun i hi => by
      by_cases e : i = j
      · subst e; rw [zs_i_v]
      · rw [zs_i_o _ _ _ _ _ (by omega)]; exact hd i (by omega))
    exact ⟨s', g1, g2, (zk_k.rf.i (by simp)).tr g3, fun j hj => (g4 j hj).trans (by rw [zs_i_n _ _ _ _ _ (by decide)])⟩
section PAIR8
variable {n : Nat} {G M : Nat → Nat} {c0 c1 : List Nat} {S wish : Nat}
theorem pr8 (hS : S < 1024) (hwish : wish ≤ 232) : ∀ (k : Nat) (w : Nat → Option Nat) (acc : List (Nat → Option Nat)) (s : zS) (d : Nat), k ≤ n → k < d → ZM s n G M c0 c1 → ZL8 s n G M c1 → ZT8 s n G M c0 c1 → (∀ j, j < 7 → s.1 91 j = oI (w j)) → zvw n S w → JH8 s acc → s.1 76 33 = nI wish → acc.length ≤ wish →
    (∀ x ∈ acc, zvw n S x) → ∃ s', f_X8_goesPair d (nI (n - k)) (nI S) s = some ((), s') ∧ JH8 s' (zpg n G M c0 c1 S wish k w acc) ∧ (∀ j, j < 7 → s'.1 91 j = oI (w j)) ∧ PF8 s s' := by
  intro k
  induction k with
  | zero =>
    intro w acc s d hk hd hZ hL hT hw hv hH hq hle hall
    obtain ⟨d, rfl⟩ : ∃ r, d = r + 1 := ⟨d - 1, by omega⟩
    have hn := hZ.1
    rw [f_X8_goesPair, g_X8_goesPair, hH.1, hq, zpg]
    by_cases hf : wish ≤ acc.length
    · rw [if_neg (fun z => z (by congr 1; omega)), if_pos hf]
      exact ⟨s, rfl, hH, hw, PF8.rf⟩
    · have e3 : zr_i s 77 (1 : Int32) = some (nI n) := by rw [r77_1, hZ.2.1]
      rw [if_pos (ne_of_nI (by omega) (by omega) (by omega)), if_neg hf, e3, Option.bind_some, Nat.sub_zero, if_neg (fun z => z rfl), hold8 hZ hL hT hS (w := w) (fun p hp _ => ⟨hw p (by omega), fun q hq => ⟨(hv p q hq).2.1, (hv p q hq).2.2.1⟩⟩), zbd_some]
      by_cases hh : zhd n G M c0 c1 S w = true
      · rw [if_pos hh, if_pos hh, if_pos (by decide)]
        obtain ⟨s', g1, g2, g3, g4⟩ := pr8_33 (f_X8_goesPair d) (acc := acc) (w := w) (by omega) 7 0 zFU s (by decide) (by decide) hw hH (fun i hi => by omega)
        exact ⟨s', g1, g2, fun j hj => by rw [(g3 91 (by decide)).1]; exact hw j hj, g3.mono (by simp), g4⟩
      · rw [if_neg hh, if_neg hh, if_neg (fun z => z rfl)]
        exact ⟨s, rfl, hH, hw, PF8.rf⟩
  | succ k ih =>
    intro w acc s d hk hd hZ hL hT hw hv hH hq hle hall
    obtain ⟨d, rfl⟩ : ∃ r, d = r + 1 := ⟨d - 1, by omega⟩
    have hn := hZ.1
    rw [f_X8_goesPair, g_X8_goesPair, hH.1, hq, zpg]
    by_cases hf : wish ≤ acc.length
    · rw [if_neg (fun z => z (by congr 1; omega)), if_pos hf]
      exact ⟨s, rfl, hH, hw, PF8.rf⟩
    have e3 : ∀ t : zS, ZM t n G M c0 c1 → zr_i t 77 (1 : Int32) = some (nI n) := fun t ht => by rw [r77_1, ht.2.1]
    have en : n - (k + 1) + 1 = n - k := by omega
    rw [if_pos (ne_of_nI (by omega) (by omega) (by omega)), if_neg hf, e3 s hZ, Option.bind_some, if_pos (ne_of_nI (by omega) (by omega) (by omega)), in_ok s (by omega) hS, zbd_some]
    obtain ⟨s1, a1, a2, a3, a4⟩ := ih w acc s d (by omega) (by omega) hZ hL hT hw hv hH hq hle hall
    by_cases hb : S.testBit (n - (k + 1)) = true
    · rw [if_pos hb, if_neg (by decide), rd_91 s (n - (k + 1)) rfl (by omega), Option.bind_some, hw _ (by omega)]
      cases hwp : w (n - (k + 1)) with
      | some r =>
        rw [show oI (some r) = nI r from rfl, if_neg (ne_m1 (by have := (hv _ _ hwp).2.1; omega)), f_X8_goesPair_95, nI_1, en, a1, zbd_some, hb]
        exact ⟨s1, rfl, by simpa using a2, a3, a4⟩
      | none =>
        rw [show oI none = (-1 : Int32) from rfl, if_pos rfl, nI_1, en, a1, zbd_some, zb_eq, hb]
        simp only [Option.isNone_none, Bool.and_self, if_true]
        have loop : ∀ (j q f : Nat) (acc : List (Nat → Option Nat)) (t : zS), q + j = n → j < f → n - k ≤ q → PF8 s t → (∀ i, i < 7 → t.1 91 i = oI (w i)) → JH8 t acc → acc.length ≤ wish → (∀ x ∈ acc, zvw n S x) →
            ∃ s', f_X8_goesPair_116 (f_X8_goesPair d) f (nI (n - (k + 1))) (nI S) (nI q) t = some ((), s') ∧ JH8 s' (zfd (fun q acc => if S.testBit q && ((w q).isNone && zmt G M c0 c1 (n - (k + 1)) q) then zpg n G M c0 c1 S wish k (zup w (n - (k + 1)) q) acc else acc) j q acc) ∧ (∀ j, j < 7 → s'.1 91 j = oI (w j)) ∧ PF8 s s' := by
          intro j
          induction j with
          | zero =>
            intro q f acc t hj hf hlo hF hw1 hH1 hle1 hall1
            obtain ⟨f, rfl⟩ : ∃ r, f = r + 1 := ⟨f - 1, by omega⟩
            have hZ1 := hZ.keep hF.1 (by decide)
            rw [f_X8_goesPair_116, e3 t hZ1, Option.bind_some, if_pos (nI_le (by omega) (by omega))]
            exact ⟨t, rfl, hH1, hw1, hF⟩
          | succ j ihj =>
            intro q f acc t hj hf hlo hF hw1 hH1 hle1 hall1
            obtain ⟨f, rfl⟩ : ∃ r, f = r + 1 := ⟨f - 1, by omega⟩
            have hZ1 := hZ.keep hF.1 (by decide)
            have hL1 : ZL8 t n G M c1 := fun a b ha hb hne => by rw [(hF.1 88 (by decide)).1]; exact hL a b ha hb hne
            have hT1 : ZT8 t n G M c0 c1 := fun a b ha hb => by rw [(hF.1 89 (by decide)).1]; exact hT a b ha hb
            have hq1 : t.1 76 33 = nI wish := by rw [hF.2 33 (by decide)]; exact hq
            have step : ∀ (acc2 : List (Nat → Option Nat)) (t2 : zS), (if S.testBit q && ((w q).isNone && zmt G M c0 c1 (n - (k + 1)) q) then zpg n G M c0 c1 S wish k (zup w (n - (k + 1)) q) acc else acc) = acc2 → PF8 s t2 → (∀ i, i < 7 → t2.1 91 i = oI (w i)) → JH8 t2 acc2 → acc2.length ≤ wish → (∀ x ∈ acc2, zvw n S x) →
                ∃ s', f_X8_goesPair_193 (f_X8_goesPair d) (f_X8_goesPair_116 (f_X8_goesPair d) f) (nI (n - (k + 1))) (nI S) (nI q) t2 = some ((), s') ∧ JH8 s' (zfd (fun q acc => if S.testBit q && ((w q).isNone && zmt G M c0 c1 (n - (k + 1)) q) then zpg n G M c0 c1 S wish k (zup w (n - (k + 1)) q) acc else acc) (j + 1) q acc) ∧ (∀ j, j < 7 → s'.1 91 j = oI (w j)) ∧ PF8 s s' := by
              intro acc2 t2 e hF2 hw2 hH2 hle2 hall2
              rw [f_X8_goesPair_193, zb_eq, nI_1]
              obtain ⟨s', g1, g2, g3⟩ := ihj (q + 1) f acc2 t2 (by omega) (by omega) (by omega) hF2 hw2 hH2 hle2 hall2
              refine ⟨s', g1, ?_, g3⟩
              rw [zfd]
              simp only [e]
              exact g2
            rw [f_X8_goesPair_116, e3 t hZ1, Option.bind_some, if_neg (nI_ge (by omega) (by omega)), in_ok t (by omega) hS, zbd_some]
            by_cases hbq : S.testBit q = true
            · rw [if_pos hbq, if_neg (by decide), rd_91 t q rfl (by omega), Option.bind_some, hw1 q (by omega)]
              cases hwq : w q with
              | some r =>
                rw [show oI (some r) = nI r from rfl, if_pos (ne_m1 (by have := (hv _ _ hwq).2.1; omega))]
                exact step acc t (by rw [hwq]; simp) hF hw1 hH1 hle1 hall1
              | none =>
                rw [show oI none = (-1 : Int32) from rfl, if_neg (fun z => z rfl), match8 hZ1 hT1 (by omega) (by omega), zbd_some]
                by_cases hm : zmt G M c0 c1 (n - (k + 1)) q = true
                · rw [if_pos hm, if_pos (by decide), wr_91 t (n - (k + 1)) rfl (by omega), Option.bind_some, wr_91 _ q rfl (by omega), Option.bind_some, nI_1, en]
                  have hv2 := zvw_up hv (p := n - (k + 1)) (q := q) (by omega) (by omega) (by omega) hwp hwq hb hbq
                  have k2 : PF8 t (zs_i (zs_i t 91 (n - (k + 1)) (nI q)) 91 q (nI (n - (k + 1)))) := PF8.rf.i.i
                  obtain ⟨t2, b1, b2, b3, b4⟩ := ih (zup w (n - (k + 1)) q) acc (zs_i (zs_i t 91 (n - (k + 1)) (nI q)) 91 q (nI (n - (k + 1)))) d (by omega) (by omega) (hZ1.keep k2.1 (by decide)) (fun a b ha hb hne => by rw [(k2.1 88 (by decide)).1]; exact hL1 a b ha hb hne) (fun a b ha hb => by rw [(k2.1 89 (by decide)).1]; exact hT1 a b ha hb) (fun i hi => by
                    unfold zup
                    by_cases e1 : i = n - (k + 1)
                    · rw [if_pos e1, zs_i_o _ _ _ _ _ (by omega), e1, zs_i_v]; rfl
                    · rw [if_neg e1]
                      by_cases e2 : i = q
                      · rw [if_pos e2, e2, zs_i_v]; rfl
                      · rw [if_neg e2, zs_i_o _ _ _ _ _ e2, zs_i_o _ _ _ _ _ e1]; exact hw1 i hi) hv2 ⟨by rw [zs_i_n _ _ _ _ _ (by decide), zs_i_n _ _ _ _ _ (by decide)]; exact hH1.1, fun i hi j2 hj2 => by rw [zs_i_n _ _ _ _ _ (by decide), zs_i_n _ _ _ _ _ (by decide)]; exact hH1.2 i hi j2 hj2⟩ (by rw [k2.2 33 (by decide)]; exact hq1) hle1 hall1
                  rw [b1, zbd_some, wr_91 t2 (n - (k + 1)) rfl (by omega), Option.bind_some, wr_91 _ q rfl (by omega), Option.bind_some]
                  have ok := zpg_ok (G := G) (M := M) (c0 := c0) (c1 := c1) (wish := wish) k (zup w (n - (k + 1)) q) acc (by omega) hv2 ⟨hle1, hall1⟩
                  refine step _ _ (by rw [hbq, hwq, hm]; rfl) ((hF.tr (k2.tr b4)).i.i) (fun i hi => ?_) ⟨by rw [zs_i_n _ _ _ _ _ (by decide), zs_i_n _ _ _ _ _ (by decide)]; exact b2.1, fun i hi j2 hj2 => by rw [zs_i_n _ _ _ _ _ (by decide), zs_i_n _ _ _ _ _ (by decide)]; exact b2.2 i hi j2 hj2⟩ ok.1 ok.2
                  by_cases e2 : i = q
                  · rw [e2, zs_i_v, hwq]; rfl
                  · rw [zs_i_o _ _ _ _ _ e2]
                    by_cases e1 : i = n - (k + 1)
                    · rw [e1, zs_i_v, hwp]; rfl
                    · rw [zs_i_o _ _ _ _ _ e1, b3 i hi]
                      unfold zup
                      rw [if_neg e1, if_neg e2]
                · rw [if_neg hm, if_neg (fun z => z rfl)]
                  exact step acc t (by simp [hm]) hF hw1 hH1 hle1 hall1
            · rw [if_neg hbq, if_pos rfl]
              exact step acc t (by simp [hbq]) hF hw1 hH1 hle1 hall1
        have ok := zpg_ok (G := G) (M := M) (c0 := c0) (c1 := c1) (wish := wish) k w acc (by omega) hv ⟨hle, hall⟩
        exact loop k (n - k) zFU _ s1 (by omega) (by show k < 5000; omega) (Nat.le_refl _) a4 a3 a2 ok.1 ok.2
    · rw [if_neg hb, if_pos rfl, f_X8_goesPair_95, nI_1, en, a1, zbd_some]
      refine ⟨s1, rfl, ?_, a3, a4⟩
      simp only [Bool.not_eq_true] at hb
      rw [hb]
      simpa using a2
/-- all pairings of S that hold, wish at most -/
def zprs (n : Nat) (G M : Nat → Nat) (c0 c1 : List Nat) (S wish : Nat) : List (Nat → Option Nat) := zpg n G M c0 c1 S wish n zno []
theorem zprs_ok : (zprs n G M c0 c1 S wish).length ≤ wish ∧ ∀ x ∈ zprs n G M c0 c1 S wish, zvw n S x := zpg_ok n zno [] (Nat.le_refl _) (zvw_no n S) ⟨Nat.zero_le _, fun x hx => absurd hx (by simp)⟩
theorem heldof8 {s : zS} (hS : S < 1024) (hwish : wish ≤ 232) (hZ : ZM s n G M c0 c1) (hL : ZL8 s n G M c1) (hT : ZT8 s n G M c0 c1) : ∃ s', f_X8_laysHeldOf (nI S) (nI wish) s = some ((), s') ∧ JH8 s' (zprs n G M c0 c1 S wish) ∧ zk_m [91, 92] s s' := by
  have hn := hZ.1
  rw [f_X8_laysHeldOf, zb_eq, zb_eq]
  have k0 : zk_m [91, 92] s (zs_i (zs_i s 76 32 0) 76 33 (nI wish)) := (zk_m.rf.f (by decide) (by decide) (by decide)).f (by decide) (by decide) (by decide)
  obtain ⟨q', t, g1, g2, g3⟩ := zlp (fun q j t => f_X8_laysHeldOf_12 q (nI S) (nI j) t) 7 (fun j t => zk_k [91] (zs_i (zs_i s 76 32 0) 76 33 (nI wish)) t ∧ ∀ i, i < j → t.1 91 i = -1)
    (fun q j t hj h => by
      show ∃ a', f_X8_laysHeldOf_12 (q + 1) (nI S) (nI j) t = f_X8_laysHeldOf_12 q (nI S) (nI (j + 1)) a' ∧ _
      rw [f_X8_laysHeldOf_12, if_neg (nI_ge hj (by omega)), wr_91 t j rfl hj, Option.bind_some, zb_eq, nI_1]
      refine ⟨_, rfl, h.1.i (by simp), fun i hi => ?_⟩
      by_cases e : i = j
      · subst e; rw [zs_i_v]
      · rw [zs_i_o _ _ _ _ _ e]; exact h.2 i (by omega)) 7 0 zFU _ (by decide) (by decide) ⟨zk_k.rf, fun i hi => by omega⟩
  have g1' : f_X8_laysHeldOf_12 zFU (nI S) 0 (zs_i (zs_i s 76 32 0) 76 33 (nI wish)) = f_X8_laysHeldOf_12 (q' + 1) (nI S) (nI 7) t := g1
  have k1 : zk_m [91, 92] s t := k0.tr ⟨g2.mono (by simp), by rw [(g2 76 (by decide)).1], by rw [(g2 76 (by decide)).1], by rw [(g2 76 (by decide)).1], by rw [(g2 76 (by decide)).1]⟩
  have e76 : t.1 76 = (zs_i (zs_i s 76 32 0) 76 33 (nI wish)).1 76 := (g2 76 (by decide)).1
  obtain ⟨s', b1, b2, b3, b4⟩ := pr8 (S := S) (wish := wish) hS hwish n zno [] t zDP (Nat.le_refl _) (by show n < 64; omega) (hZ.keep k1.1 (by decide)) (fun a b ha hb hne => by rw [(k1.1 88 (by decide)).1]; exact hL a b ha hb hne) (fun a b ha hb => by rw [(k1.1 89 (by decide)).1]; exact hT a b ha hb) (fun j hj => g3 j hj) (zvw_no n S) ⟨by rw [e76, zs_i_o _ _ _ _ _ (by decide), zs_i_v]; rfl, fun k hk => absurd hk (by simp)⟩ (by rw [e76, zs_i_v]) (Nat.zero_le _) (fun x hx => absurd hx (by simp))
  rw [Nat.sub_self] at b1
  have b1' : f_X8_goesPair zDP 0 (nI S) t = some ((), s') := b1
  rw [g1', f_X8_laysHeldOf_12, if_pos (nI_le (Nat.le_refl _) (by omega)), b1', zbd_some]
  exact ⟨s', rfl, b2, k1.tr b4.m⟩
theorem held8 {s : zS} (hZ : ZM s n G M c0 c1) : ∃ s', f_X8_laysHeld s = some ((), s') ∧ JH8 s' (zprs n G M c0 c1 (2 ^ n - 1) 232) ∧ zk_m [81, 82, 83, 84, 85, 86, 87, 88, 89, 91, 92] s s' := by
  have hn := hZ.1
  have h128 := pow_128 hn
  obtain ⟨s1, a1, a2, a3, a4, a5⟩ := lays8 hZ
  have hZ1 := hZ.keep a5.1 (by decide)
  have ev : f_X8_everybody s1 = some (nI (2 ^ n - 1), s1) := by
    rw [f_X8_everybody, r77_1 s1, Option.bind_some, hZ1.2.1, one_shl n (by omega)]
    exact congrArg (fun x => some (x, s1)) (pk_sub (b := 1) (Nat.one_le_two_pow))
  obtain ⟨s2, b1, b2, b3⟩ := heldof8 (S := 2 ^ n - 1) (wish := 232) (by omega) (by decide) hZ1 a3 a4
  rw [f_X8_laysHeld, a1, zbd_some, ev, zbd_some, b1, zbd_some]
  exact ⟨s2, rfl, b2, (a5.mono (by simp)).tr (b3.mono (by simp))⟩
end PAIR8
