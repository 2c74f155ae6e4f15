/-- the reference's own half of a society, and the class's -/
def ZLm (a : Nat → Int32) (w : Nat) (cs : List Nat) : Prop :=
  (a (2 + w) = 0 ∧ cs = []) ∨ (a (2 + w) = 1 ∧ zty w cs [] = some [decide (w = 0)] ∧ ∃ F : Nat, F + cs.length ≤ 900 ∧ a (4 + w) = nI F ∧ a (6 + w) = nI cs.length ∧ ∀ i, i < cs.length → a (255 + F + i) = nI (cs.getD i 0))
def ZLk (f co : Nat → Int32) (w : Nat) (cs : List Nat) : Prop :=
  (f (9 + 2 * w) = f (10 + 2 * w) ∧ cs = []) ∨ (zty w cs [] = some [decide (w = 0)] ∧ ∃ C : Nat, C + cs.length ≤ 900 ∧ f (9 + 2 * w) = nI C ∧ f (10 + 2 * w) = nI (C + cs.length) ∧ ∀ i, i < cs.length → co (C + i) = nI (zenc (cs.getD i 0)))
def ZM (s : zS) (n : Nat) (G M : Nat → Nat) (c0 c1 : List Nat) : Prop :=
  n ≤ 7 ∧ s.1 77 1 = nI n ∧ (∀ p, p < n → (s.1 77 (29 + p) = nI (G p) ∧ G p < 512) ∧ s.1 77 (36 + p) = nI (M p) ∧ M p < 10) ∧ ZLm (s.1 77) 0 c0 ∧ ZLm (s.1 77) 1 c1
def ZK (s : zS) (n : Nat) (G M : Nat → Nat) (c0 c1 : List Nat) : Prop :=
  n ≤ 7 ∧ s.1 3 0 = nI n ∧ (∀ p, p < n → (s.1 4 p = nI (G p) ∧ G p < 512) ∧ s.1 5 p = nI (M p) ∧ M p < 10) ∧ ZLk (s.1 3) (s.1 9) 0 c0 ∧ ZLk (s.1 3) (s.1 9) 1 c1
theorem ZM.keep {s t : zS} {S : List Nat} {n : Nat} {G M : Nat → Nat} {c0 c1 : List Nat} (h : ZM s n G M c0 c1) (hk : zk_k S s t) (hd : 77 ∉ S) : ZM t n G M c0 c1 := by
  unfold ZM
  rw [(hk 77 hd).1]
  exact h
theorem ZK.keep {s t : zS} {S : List Nat} {n : Nat} {G M : Nat → Nat} {c0 c1 : List Nat} (h : ZK s n G M c0 c1) (hk : zk_k S s t) (hd : 3 ∉ S ∧ 4 ∉ S ∧ 5 ∉ S ∧ 9 ∉ S) : ZK t n G M c0 c1 := by
  unfold ZK
  rw [(hk 3 hd.1).1, (hk 4 hd.2.1).1, (hk 5 hd.2.2.1).1, (hk 9 hd.2.2.2).1]
  exact h
theorem zRL.m {a f co : Nat → Int32} {w : Nat} {cs : List Nat} (h : zRL a f co w cs) : ZLm a w cs := by
  rcases h with ⟨h1, -, h3⟩ | ⟨h1, h2, F, C, h3, -, h5, h6, -, -, h9⟩
  · exact Or.inl ⟨h1, h3⟩
  · exact Or.inr ⟨h1, h2, F, h3, h5, h6, fun i hi => (h9 i hi).1⟩
theorem zRL.k {a f co : Nat → Int32} {w : Nat} {cs : List Nat} (h : zRL a f co w cs) : ZLk f co w cs := by
  rcases h with ⟨-, h2, h3⟩ | ⟨-, h2, F, C, -, h4, -, -, h7, h8, h9⟩
  · exact Or.inl ⟨h2, h3⟩
  · exact Or.inr ⟨h2, C, h4, h7, h8, fun i hi => (h9 i hi).2⟩
theorem JNx.m {s : zS} {n : Nat} {G M H D : Nat → Nat} {c0 c1 : List Nat} (h : JNx s n G M H D c0 c1) : ZM s n G M c0 c1 :=
  ⟨h.1.1, h.1.2.1, fun p hp => ⟨⟨(h.2.1 p hp).1.1, (h.2.1 p hp).1.2.2⟩, (h.2.1 p hp).2.1.1, (h.2.1 p hp).2.1.2.2⟩, h.2.2.2.1.m, h.2.2.2.2.m⟩
theorem JNx.k {s : zS} {n : Nat} {G M H D : Nat → Nat} {c0 c1 : List Nat} (h : JNx s n G M H D c0 c1) : ZK s n G M c0 c1 :=
  ⟨h.1.1, h.1.2.2.1, fun p hp => ⟨⟨(h.2.1 p hp).1.2.1, (h.2.1 p hp).1.2.2⟩, (h.2.1 p hp).2.1.2.1, (h.2.1 p hp).2.1.2.2⟩, h.2.2.2.1.k, h.2.2.2.2.k⟩
/-- what the laws say -/
def zenvF (x k m : Nat) : Nat → Int32 := fun j => if j = 0 then nI x else if j = 1 then nI k else nI m
def zenvL (x k p mp q mq : Nat) : Nat → Int32 := fun j => if j = 0 then nI x else if j = 1 then nI k else if j = 3 then nI p else if j = 4 then nI mp else if j = 5 then nI q else nI mq
def zfit (cs : List Nat) (x k m : Nat) : Bool := if cs = [] then decide (x < 2) else zev (zenvF x k m) cs [] == [1]
def zlik (cs : List Nat) (x k p mp q mq : Nat) : Int32 := if cs = [] then 1 else (zev (zenvL x k p mp q mq) cs []).headD 0
theorem wd0 : ∀ {k : Nat}, zword 0 (1000 + k) = true → k = 0 ∨ k = 1 ∨ k = 2 := by
  intro k h
  unfold zword at h
  simp at h
  omega
theorem wd1 : ∀ {k : Nat}, zword 1 (1000 + k) = true → k = 0 ∨ k = 1 ∨ k = 3 ∨ k = 4 ∨ k = 5 ∨ k = 6 := by
  intro k h
  unfold zword at h
  simp at h
  omega
theorem zty_nn {w : Nat} {cs : List Nat} {b : Bool} (h : zty w cs [] = some [b]) : cs ≠ [] := fun e => by
  subst e
  simp [zty] at h
theorem up3 (s : zS) (k : Nat) (x y z : Int32) : (zs_i (zs_i (zs_i s k 0 x) k 1 y) k 2 z).1 k 0 = x ∧ (zs_i (zs_i (zs_i s k 0 x) k 1 y) k 2 z).1 k 1 = y ∧ (zs_i (zs_i (zs_i s k 0 x) k 1 y) k 2 z).1 k 2 = z :=
  ⟨by rw [zs_i_o _ _ _ _ _ (by decide), zs_i_o _ _ _ _ _ (by decide), zs_i_v], by rw [zs_i_o _ _ _ _ _ (by decide), zs_i_v], zs_i_v _ _ _ _⟩
theorem zev_ty {w : Nat} {env : Nat → Int32} : ∀ (l : List Nat) (tl : List Bool) (st : List Int32) (r : List Bool), zty w l tl = some r → ztys tl st → ztys r (zev env l st) := by
  intro l
  induction l with
  | nil =>
    intro tl st r h ht
    simp only [zty, Option.some.injEq] at h
    subst h
    exact ht
  | cons c l ih =>
    intro tl st r h ht
    rw [zty] at h
    rw [zev]
    by_cases hw : zword w c = true
    · rw [if_pos hw] at h
      split at h
      · rcases zword_cases hw with h1 | ⟨h1, h2⟩
        · rw [if_pos h1]
          exact ih _ _ _ h ⟨by simp, ht⟩
        · rw [if_neg (by omega), if_pos h2]
          exact ih _ _ _ h ⟨by simp, ht⟩
      · cases h
    · rw [if_neg hw] at h
      by_cases h6 : c = 3006
      · subst h6
        rw [if_pos rfl] at h
        rw [if_neg (by decide), if_neg (by decide), if_pos rfl]
        obtain ⟨tl, rfl, h⟩ := zt1_some h
        cases st with
        | nil => exact absurd ht (by simp [ztys])
        | cons x st =>
          refine ih _ _ _ h ⟨fun _ => ?_, ht.2⟩
          rcases ht.1 rfl with e | e <;> rw [e] <;> decide
      · rw [if_neg h6] at h
        have two : ∀ (x y : Bool), (x = true → y = true → c = 3007 ∨ c = 3008) → (x = false → y = true → c = 3003 ∨ c = 3004 ∨ c = 3005) → 3000 ≤ c → zt2 x y (zty w l) tl = some r → ztys r (if c < 1000 then zev env l (nI c :: st) else if c ≤ 1006 then zev env l (env (c - 1000) :: st) else if c = 3006 then ze1 (zev env l) st else ze2 c (zev env l) st) := by
          intro x y k1 k2 hc hz
          rw [if_neg (by omega), if_neg (by omega), if_neg h6]
          obtain ⟨tr, rfl, hq⟩ := zt2_some hz
          cases st with
          | nil => exact absurd ht (by simp [ztys])
          | cons b st =>
            cases st with
            | nil => exact absurd ht.2 (by simp [ztys])
            | cons a st =>
              refine ih _ _ _ hq ⟨fun hy => btw_ty c a b ?_, ht.2.2⟩
              cases x with
              | true => exact Or.inr ⟨k1 rfl hy, ht.2.1 rfl, ht.1 rfl⟩
              | false => exact Or.inl (k2 rfl hy)
        by_cases hA : c = 3000 ∨ c = 3001 ∨ c = 3002
        · rw [if_pos hA] at h
          exact two false false (by simp) (by simp) (by omega) h
        rw [if_neg hA] at h
        by_cases hB : c = 3003 ∨ c = 3004 ∨ c = 3005
        · rw [if_pos hB] at h
          exact two false true (by simp) (fun _ _ => hB) (by omega) h
        rw [if_neg hB] at h
        by_cases hC : c = 3007 ∨ c = 3008
        · rw [if_pos hC] at h
          exact two true true (fun _ _ => hC) (by simp) (by omega) h
        rw [if_neg hC] at h
        cases h
theorem zev_b {w : Nat} {env : Nat → Int32} {l : List Nat} {v : Int32} (h : zty w l [] = some [true]) (hv : zev env l [] = [v]) : v = 0 ∨ v = 1 := by
  have := zev_ty (env := env) l [] [] [true] h trivial
  rw [hv] at this
  exact this.1 rfl
section LAWS
variable {s : zS} {n : Nat} {G M : Nat → Nat} {c0 c1 : List Nat}
theorem fit8 (h : ZM s n G M c0 c1) (x k m : Nat) (hx : x < 2 ^ 31) : ∃ s', f_X8_fitsBy (nI x) (nI k) (nI m) s = some (if zfit c0 x k m then 1 else 0, s') ∧ zk_k [85, 86] s s' := by
  unfold f_X8_fitsBy f_X8_fitsBy_55 f_X8_fitsBy_19 zfit
  rw [rd_77 s 2 rfl (by decide), Option.bind_some]
  rcases h.2.2.2.1 with ⟨h1, h2⟩ | ⟨h1, h2, F, h3, h4, h5, h6⟩
  · simp only [Nat.add_zero] at h1
    rw [h1, if_neg (fun z => z rfl), if_pos h2]
    by_cases hc : x < 2
    · rw [if_neg (nI_ge hc (by omega))]
      exact ⟨s, by simp [hc], zk_k.rf⟩
    · rw [if_pos (nI_le (by omega) hx)]
      exact ⟨s, by simp [hc], zk_k.rf⟩
  · simp only [Nat.add_zero] at h1
    rw [h1, if_pos (by decide), wr_86 s (x := 0) 0 rfl (by decide), Option.bind_some, wr_86 _ (x := 1) 1 rfl (by decide), Option.bind_some, wr_86 _ 2 rfl (by decide), Option.bind_some, if_neg (zty_nn h2)]
    have kk : zk_k [85, 86] s (zs_i (zs_i (zs_i s 86 0 (nI x)) 86 1 (nI k)) 86 2 (nI m)) := ((zk_k.rf.i (by simp)).i (by simp)).i (by simp)
    obtain ⟨u0, u1, u2⟩ := up3 s 86 (nI x) (nI k) (nI m)
    generalize zs_i (zs_i (zs_i s 86 0 (nI x)) 86 1 (nI k)) 86 2 (nI m) = t at kk u0 u1 u2
    have e77 := (kk 77 (by decide)).1
    obtain ⟨v, s', g1, g2, g3, g4⟩ := reck8_loop (w := 0) (m := 0) (F := F) (cs := c0) (env := zenvF x k m) (by decide) h3 c0 0 zFU [] [] true t (by rw [e77]; exact ⟨h4, h5, h6⟩)
      (fun j hj => by
        rcases wd0 hj with rfl | rfl | rfl
        · exact u0
        · exact u1
        · exact u2) rfl (by omega) (by show c0.length < 5000; omega) h2 trivial trivial (by simp)
    have g1' : f_X8_reckons 0 t = some (v, s') := g1
    rw [g1', zbd_some, g3]
    refine ⟨s', ?_, kk.tr (g2.mono (by simp))⟩
    rcases g4 rfl with rfl | rfl
    · rfl
    · rfl
theorem fit7 (h : ZK s n G M c0 c1) (x k m : Nat) (hx : x < 2 ^ 31) : ∃ s', f_X4_lawFits (nI x) (nI k) (nI m) s = some (if zfit c0 x k m then 1 else 0, s') ∧ zk_k [58, 59] s s' := by
  unfold f_X4_lawFits f_X4_lawFits_75 f_X4_lawFits_27 zfit
  rcases h.2.2.2.1 with ⟨h1, h2⟩ | ⟨h2, C, h3, h4, h5, h6⟩
  · simp only [Nat.mul_zero, Nat.add_zero] at h1
    rw [h1, if_neg (fun z => z rfl), if_pos h2]
    by_cases hc : x < 2
    · rw [if_neg (nI_ge hc (by omega))]
      exact ⟨s, by simp [hc], zk_k.rf⟩
    · rw [if_pos (nI_le (by omega) hx)]
      exact ⟨s, by simp [hc], zk_k.rf⟩
  · simp only [Nat.mul_zero, Nat.add_zero] at h4 h5
    have hl : 0 < c0.length := List.length_pos_iff.mpr (zty_nn h2)
    rw [if_pos (by rw [h4, h5]; exact ne_of_nI (by omega) (by omega) (by omega)), wr_59 s (x := 0) 0 rfl (by decide), Option.bind_some, wr_59 _ (x := 1) 1 rfl (by decide), Option.bind_some, wr_59 _ 2 rfl (by decide), Option.bind_some, if_neg (zty_nn h2)]
    have kk : zk_k [58, 59] s (zs_i (zs_i (zs_i s 59 0 (nI x)) 59 1 (nI k)) 59 2 (nI m)) := ((zk_k.rf.i (by simp)).i (by simp)).i (by simp)
    obtain ⟨u0, u1, u2⟩ := up3 s 59 (nI x) (nI k) (nI m)
    generalize zs_i (zs_i (zs_i s 59 0 (nI x)) 59 1 (nI k)) 59 2 (nI m) = t at kk u0 u1 u2
    have e3 := (kk 3 (by decide)).1
    have e9 := (kk 9 (by decide)).1
    obtain ⟨v, s', g1, g2, g3⟩ := reck7_loop (w := 0) (C := C) (cs := c0) (env := zenvF x k m) h3 c0 0 zFU [] [] true t (by rw [e9]; exact h6)
      (fun j hj => by
        rcases wd0 hj with rfl | rfl | rfl
        · exact u0
        · exact u1
        · exact u2) rfl (by omega) (by show c0.length < 5000; omega) h2 trivial trivial (by simp)
    have g4 : v = 0 ∨ v = 1 := zev_b h2 g3
    have g1' : f_X4_reckon (t.1 3 9) (t.1 3 10) t = some (v, s') := by
      rw [e3, h4, h5]
      exact g1
    rw [g1', zbd_some, g3]
    refine ⟨s', ?_, kk.tr (g2.mono (by simp))⟩
    rcases g4 with rfl | rfl
    · rfl
    · rfl
theorem headD_of {l : List Int32} {v : Int32} (h : l = [v]) : l.headD 0 = v := by subst h; rfl
theorem lik8 (h : ZM s n G M c0 c1) {p q x : Nat} (hp : p < n) (hq : q < n) (hx : s.1 87 (7 * p + q) = nI x) : ∃ s', f_X8_likesBy (nI p) (nI q) s = some (zlik c1 x (zpc 9 (G q)) p (M p) q (M q), s') ∧ zk_k [85, 86] s s' := by
  have hn := h.1
  unfold f_X8_likesBy zlik
  rw [rd_77 s 3 rfl (by decide), Option.bind_some]
  rcases h.2.2.2.2 with ⟨h1, h2⟩ | ⟨h1, h2, F, h3, h4, h5, h6⟩
  · rw [show s.1 77 3 = 0 from h1, if_neg (fun z => z rfl), if_pos h2]
    exact ⟨s, rfl, zk_k.rf⟩
  · rw [show s.1 77 3 = 1 from h1, if_pos (by decide), if_neg (zty_nn h2), pk_mul, nI_add, rd_87 s (7 * p + q) rfl (by omega), Option.bind_some, hx, wr_86 s (x := 0) 0 rfl (by decide), Option.bind_some, nI_add, rd_77 _ (29 + q) rfl (by omega), Option.bind_some, zs_i_n _ _ _ _ _ (by decide : (77 : Nat) ≠ 86), (h.2.2.1 q hq).1.1, bits_512 (h.2.2.1 q hq).1.2, zbd_some, wr_86 _ (x := 1) 1 rfl (by decide), Option.bind_some, wr_86 _ 3 rfl (by decide), Option.bind_some, nI_add, rd_77 _ (36 + p) rfl (by omega), Option.bind_some, zs_i_n _ _ _ _ _ (by decide : (77 : Nat) ≠ 86), zs_i_n _ _ _ _ _ (by decide : (77 : Nat) ≠ 86), zs_i_n _ _ _ _ _ (by decide : (77 : Nat) ≠ 86), (h.2.2.1 p hp).2.1, wr_86 _ 4 rfl (by decide), Option.bind_some, wr_86 _ 5 rfl (by decide), Option.bind_some, nI_add, rd_77 _ (36 + q) rfl (by omega), Option.bind_some, zs_i_n _ _ _ _ _ (by decide : (77 : Nat) ≠ 86), zs_i_n _ _ _ _ _ (by decide : (77 : Nat) ≠ 86), zs_i_n _ _ _ _ _ (by decide : (77 : Nat) ≠ 86), zs_i_n _ _ _ _ _ (by decide : (77 : Nat) ≠ 86), zs_i_n _ _ _ _ _ (by decide : (77 : Nat) ≠ 86), (h.2.2.1 q hq).2.1, wr_86 _ 6 rfl (by decide), Option.bind_some]
    generalize ht : zs_i (zs_i (zs_i (zs_i (zs_i (zs_i s 86 0 (nI x)) 86 1 (nI (zpc 9 (G q)))) 86 3 (nI p)) 86 4 (nI (M p))) 86 5 (nI q)) 86 6 (nI (M q)) = t
    have kk : zk_k [85, 86] s t := by
      rw [← ht]
      exact (((((zk_k.rf.i (by simp)).i (by simp)).i (by simp)).i (by simp)).i (by simp)).i (by simp)
    have e77 := (kk 77 (by decide)).1
    obtain ⟨v, s', g1, g2, g3, g4⟩ := reck8_loop (w := 1) (m := 0) (F := F) (cs := c1) (env := zenvL x (zpc 9 (G q)) p (M p) q (M q)) (by decide) h3 c1 0 zFU [] [] false t (by rw [e77]; exact ⟨h4, h5, h6⟩)
      (fun j hj => by
        rw [← ht]
        rcases wd1 hj with rfl | rfl | rfl | rfl | rfl | rfl <;> simp [zs_i, upd, zenvL]) rfl (by omega) (by show c1.length < 5000; omega) h2 trivial trivial (by simp)
    have g1' : f_X8_reckons 1 t = some (v, s') := g1
    rw [g1', zbd_some, headD_of g3]
    exact ⟨s', rfl, kk.tr (g2.mono (by simp))⟩
end LAWS
