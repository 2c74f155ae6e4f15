section FIND7
variable {n : Nat} {G M : Nat → Nat} {c0 c1 : List Nat} {S wish : Nat}
theorem find7 {s : zS} (hS : S < 128) (hwish : wish ≤ 232) (hK : ZK s n G M c0 c1) (hM : JM s n G M c0 c1) : ∃ s', f_X0_findPairings (nI S) (nI wish) s = some ((), s') ∧ JH7 s' n S (zprs n G M c0 c1 S wish) ∧ zk_k [60, 64, 65] s s' ∧ s'.1 60 10 = 0 ∧ ∀ j, j ≠ 8 → j ≠ 9 → j ≠ 10 → s'.1 60 j = s.1 60 j := by
  have hn := hK.1
  rw [f_X0_findPairings, zb_eq, zb_eq, zb_eq]
  have k0 : zk_k [60] s (zs_i (zs_i (zs_i s 60 10 0) 60 8 0) 60 9 (nI wish)) := ((zk_k.rf.i (by simp)).i (by simp)).i (by simp)
  obtain ⟨s', b1, b2, b3, b4⟩ := pr7 (S := S) (wish := wish) (n := n) (G := G) (M := M) (c0 := c0) (c1 := c1) hS hwish n zno [] S (zs_i (zs_i (zs_i s 60 10 0) 60 8 0) 60 9 (nI wish)) zDP (Nat.le_refl _) (by show n < 64; omega) (hK.keep k0 (by decide)) (hM.keep k0 (by decide)) (fun j hj h => by
    rcases h with ⟨h1, -⟩ | h
    · omega
    · exact absurd rfl h) (zvw_no n S) hS (fun j _ _ => by simp [zno]) ⟨by rw [zs_i_o _ _ _ _ _ (by decide), zs_i_v]; rfl, fun k hk => absurd hk (by simp)⟩ (zs_i_v _ _ _ _) (Nat.zero_le _) (fun x hx => absurd hx (by simp))
  rw [Nat.sub_self] at b1
  have b1' : f_X0_pair zDP 0 (nI S) (nI S) (zs_i (zs_i (zs_i s 60 10 0) 60 8 0) 60 9 (nI wish)) = some ((), s') := b1
  rw [b1', zbd_some]
  refine ⟨s', rfl, b2, (k0.mono (by simp)).tr b4.1, ?_, fun j h1 h2 h3 => ?_⟩
  · rw [b4.2 10 (by decide), zs_i_o _ _ _ _ _ (by decide), zs_i_o _ _ _ _ _ (by decide), zs_i_v]
  · rw [b4.2 j h1, zs_i_o _ _ _ _ _ h2, zs_i_o _ _ _ _ _ h1, zs_i_o _ _ _ _ _ h3]
end FIND7
/-- how likely just these don't stay at home -/
def zwt (H : Nat → Nat) (S : Nat) : Nat → Nat
  | 0 => 1
  | i + 1 => zwt H S i * (if S.testBit i then 10 - H i else H i)
theorem zwt_le {H : Nat → Nat} {n : Nat} (S : Nat) (hH : ∀ p, p < n → H p ≤ 10) : ∀ i, i ≤ n → zwt H S i ≤ 10 ^ i := by
  intro i
  induction i with
  | zero => intro _; exact Nat.le_refl _
  | succ i ih =>
    intro hi
    have h1 := ih (by omega)
    have h2 := hH i (by omega)
    rw [zwt, Nat.pow_succ]
    exact Nat.mul_le_mul h1 (by split <;> omega)
def zfp (n : Nat) (G M : Nat → Nat) (c0 c1 : List Nat) (S : Nat) : Nat → Option Nat := (zprs n G M c0 c1 S 1).getD 0 zno
def ztg (n : Nat) (G M H : Nat → Nat) (c0 c1 : List Nat) (p q g : Nat) : Nat := zsum g (fun S => if zfp n G M c0 c1 S p = some q then zwt H S n else 0)
def JC6 (s : zS) (n : Nat) (G M : Nat → Nat) (c0 c1 : List Nat) (A B : Nat → Nat) : Prop := CA (s.1 60 10) (zaa A B) (JH7 s n (2 ^ n - 1) (zprs n G M c0 c1 (2 ^ n - 1) 232))
def JC7 (s : zS) (n : Nat) (G M H : Nat → Nat) (c0 c1 : List Nat) (A B : Nat → Nat) : Prop := CA (s.1 60 12) (zaa A B) (∀ p q, p < n → q < n → s.1 66 (7 * p + q) = nI (ztg n G M H c0 c1 p q (2 ^ n)))
/-- all that the class has reckoned -/
def JK (s : zS) (n : Nat) (G M H : Nat → Nat) (c0 c1 : List Nat) (A B : Nat → Nat) : Prop := JR s n G M c0 c1 A B ∧ JC5 s n G M c0 c1 A B ∧ JC6 s n G M c0 c1 A B ∧ JC7 s n G M H c0 c1 A B
def CC : List Nat := [42, 43, 44, 45, 46, 47, 48, 49, 50, 51, 52, 53, 54, 55, 56, 57, 58, 59, 60, 61, 62, 63, 64, 65, 66, 67]
theorem JK.keep {s t : zS} {T : List Nat} {n : Nat} {G M H A B : Nat → Nat} {c0 c1 : List Nat} (h : JK s n G M H c0 c1 A B) (hk : zk_k T s t) (hd : ∀ k, k ∈ [3, 4, 5, 9, 10, 11, 43, 44, 45, 47, 48, 49, 50, 51, 53, 54, 57, 60, 61, 62, 65, 66] → k ∉ T) : JK t n G M H c0 c1 A B := by
  obtain ⟨h1, h2, h3, h4⟩ := h
  refine ⟨h1.keep hk (fun k hm => hd k (by revert k; decide)), h2.keep hk ⟨hd 60 (by decide), hd 61 (by decide), hd 62 (by decide)⟩, ?_, ?_⟩
  · unfold JC6 JH7
    rw [(hk 60 (hd 60 (by decide))).1, (hk 65 (hd 65 (by decide))).1]
    exact h3
  · unfold JC7
    rw [(hk 60 (hd 60 (by decide))).1, (hk 66 (hd 66 (by decide))).1]
    exact h4
section KNOWN
variable {n : Nat} {G M H A B : Nat → Nat} {c0 c1 : List Nat} {s : zS}
/-- rings only -/
theorem JK.r {t : zS} (h : JK s n G M H c0 c1 A B) (hr : JR t n G M c0 c1 A B) (hk : zk_k RC s t) : JK t n G M H c0 c1 A B := by
  obtain ⟨h1, h2, h3, h4⟩ := h
  refine ⟨hr, h2.keep hk (by decide), ?_, ?_⟩
  · unfold JC6 JH7
    rw [(hk 60 (by decide)).1, (hk 65 (by decide)).1]
    exact h3
  · unfold JC7
    rw [(hk 60 (by decide)).1, (hk 66 (by decide)).1]
    exact h4
theorem learnK (h : JK s n G M H c0 c1 A B) : ∃ s', f_X0_learnMatches s = some ((), s') ∧ JK s' n G M H c0 c1 A B ∧ JM s' n G M c0 c1 ∧ zk_k BC s s' ∧ ∀ j, j ≠ 4 → s'.1 60 j = s.1 60 j := by
  obtain ⟨h1, h2, h3, h4⟩ := h
  obtain ⟨s1, a1, a2, a3, a4, a5, a6⟩ := learn7 h1 h2
  refine ⟨s1, a1, ⟨a2, a3, ?_, ?_⟩, a4, a5, a6⟩
  · unfold JC6 JH7
    rw [a6 10 (by decide), a6 8 (by decide), (a5 65 (by decide)).1]
    exact h3
  · unfold JC7
    rw [a6 12 (by decide), (a5 66 (by decide)).1]
    exact h4
theorem allK (h : ZK s n G M c0 c1) : f_X5_everybody_3 s = some (nI (2 ^ n - 1), s) := by
  have hn := h.1
  rw [f_X5_everybody_3, h.2.1, one_shl n (by omega)]
  exact congrArg (fun x => some (x, s)) (pk_sub (b := 1) (Nat.one_le_two_pow))
theorem CA.zero {x : Int32} {cur : Nat} {P : Prop} (hx : x = 0) (h : 0 < cur) : CA x cur P := ⟨0, hx, Nat.zero_le _, fun z => by omega⟩
theorem pairsK (h : JK s n G M H c0 c1 A B) : ∃ s', f_X0_learnPairings s = some ((), s') ∧ JK s' n G M H c0 c1 A B ∧ JH7 s' n (2 ^ n - 1) (zprs n G M c0 c1 (2 ^ n - 1) 232) ∧ zk_k CC s s' := by
  have hn := h.1.1.1.1
  have h128 := pow_128 hn
  have hag := zaa_le h.1.1.2.1
  unfold f_X0_learnPairings f_X0_learnPairings_36
  rw [aall7 h.1.1.2.1, zbd_some]
  by_cases hh : s.1 60 10 = nI (zaa A B)
  · rw [if_pos hh]
    exact ⟨s, rfl, h, h.2.2.1.hit (by omega) hh, zk_k.rf⟩
  rw [if_neg hh]
  obtain ⟨s1, a1, a2, a3, a4, a5⟩ := learnK h
  obtain ⟨s2, b1, b2, b3, b4, b5⟩ := find7 (S := 2 ^ n - 1) (wish := 232) (by omega) (by decide) a2.1.1.1 a3
  rw [a1, zbd_some, allK a2.1.1.1, zbd_some, b1, zbd_some, zb_eq]
  have k3 : zk_k [60, 64, 65] s1 (zs_i s2 60 10 (nI (zaa A B))) := b3.i (by simp)
  have hH : JH7 (zs_i s2 60 10 (nI (zaa A B))) n (2 ^ n - 1) (zprs n G M c0 c1 (2 ^ n - 1) 232) := by
    unfold JH7
    rw [zs_i_o _ _ _ _ _ (by decide), zs_i_n _ _ _ _ _ (by decide)]
    exact b2
  obtain ⟨h1, h2, h3, h4⟩ := a2
  refine ⟨_, rfl, ⟨h1.keep k3 (by decide), ?_, CA.now (zs_i_v _ _ _ _) hH, ?_⟩, hH, (a4.mono (by decide)).tr (k3.mono (by decide))⟩
  · unfold JC5 JM
    rw [zs_i_o _ _ _ _ _ (by decide), b5 4 (by decide) (by decide) (by decide), (k3 61 (by decide)).1, (k3 62 (by decide)).1]
    exact h2
  · unfold JC7
    rw [zs_i_o _ _ _ _ _ (by decide), b5 12 (by decide) (by decide) (by decide), (k3 66 (by decide)).1]
    exact h4
theorem wt7 (hK : ZK s n G M c0 c1) (hH : ∀ p, p < n → s.1 6 p = nI (H p) ∧ H p ≤ 10) {S : Nat} (hS : S < 1024) : f_X0_weightOf (nI S) s = some (nI (zwt H S n), s) := by
  have hn := hK.1
  obtain ⟨q', u, g1, -⟩ := zlp (fun q i (_ : Unit) => f_X0_weightOf_4 q (nI S) (nI (zwt H S i)) (nI i) s) n (fun _ _ => True)
    (fun q i _ hi _ => by
      refine ⟨(), ?_, trivial⟩
      show f_X0_weightOf_4 (q + 1) (nI S) (nI (zwt H S i)) (nI i) s = f_X0_weightOf_4 q (nI S) (nI (zwt H S (i + 1))) (nI (i + 1)) s
      rw [f_X0_weightOf_4, hK.2.1, if_neg (nI_ge hi (by omega)), ush_tb (by omega) hS, zwt]
      by_cases hb : S.testBit i = true
      · rw [if_pos hb, if_pos hb, if_neg (fun z => z rfl), rd_6 s i rfl (by omega), Option.bind_some, (hH i hi).1, pk_sub (hH i hi).2, f_X0_weightOf_49, zb_eq, zb_eq, pk_mul, nI_1]
      · rw [if_neg hb, if_neg hb, if_pos (by decide), rd_6 s i rfl (by omega), Option.bind_some, (hH i hi).1, f_X0_weightOf_49, zb_eq, zb_eq, pk_mul, nI_1]) n 0 zFU () (by omega) (by show n < 5000; omega) trivial
  have g1' : f_X0_weightOf (nI S) s = f_X0_weightOf_4 (q' + 1) (nI S) (nI (zwt H S n)) (nI n) s := g1
  rw [g1', f_X0_weightOf_4, hK.2.1, if_pos (nI_le (Nat.le_refl _) (by omega))]
theorem wt8 (hZ : ZM s n G M c0 c1) (hH : ∀ p, p < n → s.1 77 (8 + p) = nI (H p) ∧ H p ≤ 10) {S : Nat} (hS : S < 1024) : f_X8_likelyOut (nI S) s = some (nI (zwt H S n), s) := by
  have hn := hZ.1
  have e3 : zr_i s 77 (1 : Int32) = some (nI n) := by rw [r77_1, hZ.2.1]
  obtain ⟨q', u, g1, -⟩ := zlp (fun q i (_ : Unit) => f_X8_likelyOut_4 q (nI S) (nI (zwt H S i)) (nI i) s) n (fun _ _ => True)
    (fun q i _ hi _ => by
      refine ⟨(), ?_, trivial⟩
      show f_X8_likelyOut_4 (q + 1) (nI S) (nI (zwt H S i)) (nI i) s = f_X8_likelyOut_4 q (nI S) (nI (zwt H S (i + 1))) (nI (i + 1)) s
      rw [f_X8_likelyOut_4, e3, Option.bind_some, if_neg (nI_ge hi (by omega)), in_ok s (by omega) hS, zbd_some, zwt]
      by_cases hb : S.testBit i = true
      · rw [if_pos hb, if_pos hb, if_neg (by decide), rd_77 s (8 + i) (nI_add _ _) (by omega), Option.bind_some, (hH i hi).1, pk_sub (hH i hi).2, f_X8_likelyOut_48, zb_eq, zb_eq, pk_mul, nI_1]
      · rw [if_neg hb, if_neg hb, if_pos rfl, rd_77 s (8 + i) (nI_add _ _) (by omega), Option.bind_some, (hH i hi).1, f_X8_likelyOut_48, zb_eq, zb_eq, pk_mul, nI_1]) n 0 zFU () (by omega) (by show n < 5000; omega) trivial
  have g1' : f_X8_likelyOut (nI S) s = f_X8_likelyOut_4 (q' + 1) (nI S) (nI (zwt H S n)) (nI n) s := g1
  rw [g1', f_X8_likelyOut_4, e3, Option.bind_some, if_pos (nI_le (Nat.le_refl _) (by omega))]
theorem zfp_v (S : Nat) : zvw n S (zfp n G M c0 c1 S) := by
  unfold zfp
  have ok := zprs_ok (n := n) (G := G) (M := M) (c0 := c0) (c1 := c1) (S := S) (wish := 1)
  by_cases h : 0 < (zprs n G M c0 c1 S 1).length
  · exact ok.2 _ (gd_mem _ zno h)
  · have : zprs n G M c0 c1 S 1 = [] := List.length_eq_zero_iff.mp (by omega)
    rw [this]
    exact zvw_no n S
theorem first7 (hn : n ≤ 7) {S : Nat} (hH : JH7 s n S (zprs n G M c0 c1 S 1)) {p : Nat} (hp : p < n) : f_X0_partnerIn 0 (nI p) s = some (oI (zfp n G M c0 c1 S p), s) := by
  have ok := zprs_ok (n := n) (G := G) (M := M) (c0 := c0) (c1 := c1) (S := S) (wish := 1)
  by_cases h : 0 < (zprs n G M c0 c1 S 1).length
  · exact part7 hn hH (by omega) ok.2 hp h
  · have e : zprs n G M c0 c1 S 1 = [] := List.length_eq_zero_iff.mp (by omega)
    rw [part7_no (x := 0) hH (nI p) (by rw [e]; decide)]
    unfold zfp
    rw [e]
    rfl
theorem addt7 (hK : ZK s n G M c0 c1) {S W : Nat} (hH : JH7 s n S (zprs n G M c0 c1 S 1)) {T : Nat → Nat → Nat} (hT : ∀ p q, p < n → q < n → s.1 66 (7 * p + q) = nI (T p q)) : ∃ s', f_X0_addTogether (nI W) s = some ((), s') ∧ zk_k [66] s s' ∧ ∀ p q, p < n → q < n → s'.1 66 (7 * p + q) = nI (T p q + (if zfp n G M c0 c1 S p = some q then W else 0)) := by
  have hn := hK.1
  obtain ⟨q', t, g1, g2, g3⟩ := zlp (fun r i t => f_X0_addTogether_2 r (nI W) (nI i) t) n (fun i t => zk_k [66] s t ∧ ∀ p q, p < n → q < n → t.1 66 (7 * p + q) = nI (T p q + (if p < i ∧ zfp n G M c0 c1 S p = some q then W else 0)))
    (fun r i t hi h => by
      show ∃ a', f_X0_addTogether_2 (r + 1) (nI W) (nI i) t = f_X0_addTogether_2 r (nI W) (nI (i + 1)) a' ∧ _
      have hH1 : JH7 t n S (zprs n G M c0 c1 S 1) := by
        unfold JH7
        rw [(h.1 60 (by decide)).1, (h.1 65 (by decide)).1]
        exact hH
      rw [f_X0_addTogether_2, (h.1 3 (by decide)).1, hK.2.1, if_neg (nI_ge hi (by omega)), first7 hn hH1 hi, zbd_some]
      cases hw : zfp n G M c0 c1 S i with
      | none =>
        rw [show oI none = (-1 : Int32) from rfl, if_pos (by decide), f_X0_addTogether_45, zb_eq, nI_1]
        refine ⟨t, rfl, h.1, fun p q hp hq => ?_⟩
        rw [h.2 p q hp hq]
        by_cases e : p = i
        · subst e; rw [hw]; simp
        · have : (p < i ∧ zfp n G M c0 c1 S p = some q) ↔ (p < i + 1 ∧ zfp n G M c0 c1 S p = some q) := by constructor <;> (rintro ⟨h1, h2⟩; exact ⟨by omega, h2⟩)
          simp only [this]
      | some r2 =>
        have hr2 := (zfp_v S i r2 hw).2.1
        rw [show oI (some r2) = nI r2 from rfl, if_neg (nI_pos (by omega)), if_neg (nI_ge (by omega) (by omega)), rd_66 t (7 * i + r2) (by rw [pk_mul, nI_add, Nat.mul_comm]) (by omega), Option.bind_some, h.2 i r2 hi hr2, wr_66 t (7 * i + r2) (by rw [pk_mul, nI_add, Nat.mul_comm]) (by omega), Option.bind_some, f_X0_addTogether_45, zb_eq, nI_1]
        refine ⟨_, rfl, h.1.i (by simp), fun p q hp hq => ?_⟩
        by_cases e : p = i ∧ q = r2
        · obtain ⟨rfl, rfl⟩ := e
          rw [zs_i_v, hw, nI_add]
          simp
        · rw [zs_i_o _ _ _ _ _ (by omega), h.2 p q hp hq]
          have : (p < i ∧ zfp n G M c0 c1 S p = some q) ↔ (p < i + 1 ∧ zfp n G M c0 c1 S p = some q) := by
            constructor
            · rintro ⟨h1, h2⟩; exact ⟨by omega, h2⟩
            · rintro ⟨h1, h2⟩
              refine ⟨?_, h2⟩
              by_cases e2 : p = i
              · subst e2
                rw [hw] at h2
                cases h2
                exact absurd ⟨rfl, rfl⟩ e
              · omega
          simp only [this]) n 0 zFU s (by omega) (by show n < 5000; omega) ⟨zk_k.rf, fun p q hp hq => by rw [hT p q hp hq]; simp⟩
  have g1' : f_X0_addTogether (nI W) s = f_X0_addTogether_2 (q' + 1) (nI W) (nI n) t := g1
  rw [g1', f_X0_addTogether_2, (g2 3 (by decide)).1, hK.2.1, if_pos (nI_le (Nat.le_refl _) (by omega))]
  refine ⟨t, rfl, g2, fun p q hp hq => ?_⟩
  rw [g3 p q hp hq]
  simp [hp]
end KNOWN
