def zcans (w g : Nat) : Option Nat → Int32
  | none => -1
  | some z => if w = 1 then nI z else nI (zcd g z)
section CHANGE8
variable {n : Nat} {G M H D A B : Nat → Nat} {c0 c1 : List Nat} {s : zS}
theorem zcf_two (hn : n ≤ 7) {p q x : Nat} (hp : p < n) (hq : q < n) (hpq : p ≠ q) : zfs n (zsg G p x) c0 (2 ^ p ||| 2 ^ q) = zcf c0 (G q) x := by
  rw [zfs_two hn hp hq hpq]
  unfold zcf zc2 zsg
  rw [if_neg hpq, if_pos rfl, if_neg (Ne.symm hpq)]
theorem change8 {t0 : zS} (hZ : ZM t0 n G M c0 c1) {p q w : Nat} (hp : p < n) (hq : q < n) (hpq : p ≠ q) (hw : w < 2) : ∃ r t', CH c0 (G p) (G q) r ∧ f_X8_change_46 zFU (nI p) (nI q) (nI w) (nI (G p)) (-1) 0 t0 = some ((zcans w (G p) r), t') ∧ zk_m [81, 82, 83, 84, 85, 86] t0 t' := by
  have hn := hZ.1
  have h128 := pow_128 hn
  have hg := (hZ.2.2.1 p hp).1.2
  obtain ⟨m1', m2', -⟩ := two_all G hn hp hq hpq
  have K : ∀ (k x f : Nat) (b : Option Nat) (t : zS), x + k = 512 → k < f → zk_m [77, 81, 82, 83, 84, 85, 86] t0 t → (∀ j, j ≠ 29 + p → t.1 77 j = t0.1 77 j) → t.2 77 = t0.2 77 → ((b = none ∧ ∀ y, y < x → zcf c0 (G q) y = false) ∨ ∃ z, b = some z ∧ z < x ∧ zcf c0 (G q) z = true ∧ ∀ y, y < x → zcf c0 (G q) y = true → zcd (G p) z ≤ zcd (G p) y ∧ (y < z → zcd (G p) z < zcd (G p) y)) →
      ∃ r t', CH c0 (G p) (G q) r ∧ f_X8_change_46 f (nI p) (nI q) (nI w) (nI (G p)) (oI b) (nI x) t = some ((zcans w (G p) r), t') ∧ zk_m [81, 82, 83, 84, 85, 86] t0 t' := by
    intro k
    induction k with
    | zero =>
      intro x f b t hx hf hk h77 hl77 hb
      obtain ⟨f, rfl⟩ : ∃ r, f = r + 1 := ⟨f - 1, by omega⟩
      have e : x = 512 := by omega
      subst e
      have back : (zs_i t 77 (29 + p) (nI (G p))).1 77 = t0.1 77 := by
        funext j
        by_cases e : j = 29 + p
        · rw [e, zs_i_v]; exact (hZ.2.2.1 p hp).1.1.symm
        · rw [zs_i_o _ _ _ _ _ e]; exact h77 j e
      have kk : zk_m [81, 82, 83, 84, 85, 86] t0 (zs_i t 77 (29 + p) (nI (G p))) := by
        refine ⟨fun j hj => ?_, by rw [zs_i_n _ _ _ _ _ (by decide)]; exact hk.2.1, by rw [zs_i_n _ _ _ _ _ (by decide)]; exact hk.2.2.1, by rw [zs_i_n _ _ _ _ _ (by decide)]; exact hk.2.2.2.1, by rw [zs_i_n _ _ _ _ _ (by decide)]; exact hk.2.2.2.2⟩
        by_cases e : j = 77
        · subst e; exact ⟨back, hl77⟩
        · rw [zs_i_n _ _ _ _ _ e]
          exact hk.1 j (by simp at hj ⊢; omega)
      rw [f_X8_change_46, if_pos (nI_le (Nat.le_refl _) (by decide)), wr_77 t (29 + p) (nI_add _ _) (by omega), Option.bind_some]
      rcases hb with ⟨rfl, h0⟩ | ⟨z, rfl, z1, z2, z3⟩
      · refine ⟨none, _, Or.inl ⟨rfl, h0⟩, ?_, kk⟩
        rw [show oI none = (-1 : Int32) from rfl, if_pos rfl]; rfl
      · refine ⟨some z, _, Or.inr ⟨z, rfl, z1, z2, z3⟩, ?_, kk⟩
        rw [show oI (some z) = nI z from rfl, if_neg (ne_m1 (by omega)), nI_xor, bits_512 (xor_lt z1 hg), zbd_some]
        by_cases e : w = 1
        · subst e; rw [if_neg (fun z => z rfl)]; rfl
        · rw [if_pos (show ¬ nI w = (1 : Int32) from ne_c 1 rfl e (by omega) (by decide))]
          show some (nI (zcd (G p) z), _) = some (if w = 1 then nI z else nI (zcd (G p) z), _)
          rw [if_neg e]
    | succ k ih =>
      intro x f b t hx hf hk h77 hl77 hb
      obtain ⟨f, rfl⟩ : ∃ r, f = r + 1 := ⟨f - 1, by omega⟩
      have ih := ih (x + 1) f
      -- a sign is tried
      have try1 : (b = none ∨ ∃ z, b = some z ∧ z < 512 ∧ zcd (G p) x < zcd (G p) z) → ∃ r t', CH c0 (G p) (G q) r ∧ f_X8_change_82 (f_X8_change_46 f) (nI p) (nI q) (nI w) (nI (G p)) (oI b) (nI x) t = some ((zcans w (G p) r), t') ∧ zk_m [81, 82, 83, 84, 85, 86] t0 t' := by
        intro hcase
        have hZ1 : ZM (zs_i t 77 (29 + p) (nI x)) n (zsg G p x) M c0 c1 := hZ.set (fun j hj => by rw [zs_i_o _ _ _ _ _ (by omega)]; exact h77 j (by omega)) (fun j hj => by
          unfold zsg
          obtain ⟨⟨u1, u2⟩, u3, u4⟩ := hZ.2.2.1 j hj
          by_cases e : j = p
          · subst e
            rw [if_pos rfl, zs_i_v, zs_i_o _ _ _ _ _ (by omega), h77 _ (by omega)]
            exact ⟨⟨rfl, by omega⟩, u3, u4⟩
          · rw [if_neg e, zs_i_o _ _ _ _ _ (by omega), zs_i_o _ _ _ _ _ (by omega), h77 _ (by omega), h77 _ (by omega)]
            exact ⟨⟨u1, u2⟩, u3, u4⟩)
        obtain ⟨t2, a1, a2⟩ := fset8 hZ1 m1'
        rw [f_X8_change_82, wr_77 t (29 + p) (nI_add _ _) (by omega), Option.bind_some, one_shl p (by omega), one_shl q (by omega), nI_or, a1, zbd_some, zcf_two hn hp hq hpq]
        have k2 : zk_m [77, 81, 82, 83, 84, 85, 86] t0 t2 := (hk.i (by simp) (by decide)).tr (a2.mono (by simp))
        have h772 : ∀ j, j ≠ 29 + p → t2.1 77 j = t0.1 77 j := fun j hj => by rw [(a2.1 77 (by decide)).1, zs_i_o _ _ _ _ _ hj]; exact h77 j hj
        have hl772 : t2.2 77 = t0.2 77 := (a2.1 77 (by decide)).2.trans hl77
        by_cases hf2 : zcf c0 (G q) x = true
        · rw [if_pos hf2, if_neg (by decide), f_X8_change_111, zb_eq, nI_1]
          refine ih (some x) t2 (by omega) (by omega) k2 h772 hl772 (Or.inr ⟨x, rfl, by omega, hf2, fun y hy hcy => ?_⟩)
          by_cases e : y = x
          · subst e; exact ⟨Nat.le_refl _, fun z => by omega⟩
          · rcases hb with ⟨-, h0⟩ | ⟨z, hz, z1, z2, z3⟩
            · rw [h0 y (by omega)] at hcy; cases hcy
            · rcases hcase with hc | ⟨z', hz', -, hc⟩
              · rw [hc] at hz; cases hz
              · rw [hz] at hz'; cases hz'
                have := z3 y (by omega) hcy
                omega
        · rw [if_neg hf2, if_pos rfl, f_X8_change_111, zb_eq, nI_1]
          refine ih b t2 (by omega) (by omega) k2 h772 hl772 ?_
          rcases hb with ⟨hb, h0⟩ | ⟨z, hz, z1, z2, z3⟩
          · refine Or.inl ⟨hb, fun y hy => ?_⟩
            by_cases e : y = x
            · subst e; simpa using hf2
            · exact h0 y (by omega)
          · refine Or.inr ⟨z, hz, by omega, z2, fun y hy hcy => ?_⟩
            by_cases e : y = x
            · subst e; exact absurd hcy hf2
            · exact z3 y (by omega) hcy
      rw [f_X8_change_46, if_neg (nI_ge (by omega) (by decide))]
      rcases hb with ⟨rfl, h0⟩ | ⟨z, rfl, z1, z2, z3⟩
      · rw [show oI none = (-1 : Int32) from rfl, if_pos rfl]
        exact try1 (Or.inl rfl)
      · have hd1 := zpc_le 9 (x ^^^ G p)
        have hd2 := zpc_le 9 (z ^^^ G p)
        rw [show oI (some z) = nI z from rfl, if_neg (ne_m1 (by omega)), nI_xor, bits_512 (xor_lt (by omega) hg), zbd_some, nI_xor, bits_512 (xor_lt (by omega) hg), zbd_some]
        by_cases hc : zcd (G p) x < zcd (G p) z
        · rw [if_pos (show nI (zpc 9 (x ^^^ G p)) < nI (zpc 9 (z ^^^ G p)) from nI_lt hc (by omega))]
          exact try1 (Or.inr ⟨z, rfl, by omega, hc⟩)
        · rw [if_neg (show ¬ nI (zpc 9 (x ^^^ G p)) < nI (zpc 9 (z ^^^ G p)) from nI_nlt (Nat.le_of_not_lt hc) (by omega)), f_X8_change_111, zb_eq, nI_1]
          refine ih (some z) t (by omega) (by omega) hk h77 hl77 (Or.inr ⟨z, rfl, by omega, z2, fun y hy hcy => ?_⟩)
          by_cases e : y = x
          · subst e; exact ⟨by omega, fun z => by omega⟩
          · exact z3 y (by omega) hcy
  exact K 512 0 zFU none t0 (by decide) (by decide) zk_m.rf (fun _ _ => rfl) rfl (Or.inl ⟨rfl, fun y hy => by omega⟩)
theorem q_change (hN : JNx s n G M H D c0 c1) (hK : JK s n G M H c0 c1 A B) (a b c : Int32) : QR (f_X7_change a b c) (f_X8_change a b c) s n G M H c0 c1 A B := by
  have hn := hN.1.1
  rcases two_cases hN a b with ⟨h1, h2⟩ | ⟨p, q, hp, hq, hpq, rfl, rfl, h1, h2⟩
  · refine QR.no hK (-2) ?_ ?_
    · rw [f_X7_change, h1, zbd_some, if_pos rfl]; rfl
    · rw [f_X8_change, zb_eq, h2 _ hN.th, zbd_some, if_pos rfl]; rfl
  rcases i_cases c 2 (by decide) with ⟨h, h'⟩ | ⟨h0, h⟩ | ⟨k, hk, rfl⟩
  · refine QR.no hK (-2) ?_ ?_
    · rw [f_X7_change, h1, zbd_some, if_neg (by decide), if_pos h]; rfl
    · rw [f_X8_change, zb_eq, h2 _ hN.th, zbd_some, if_neg (by decide), wi_neg _ h, zbd_some, if_neg (fun z => z rfl)]; rfl
  · refine QR.no hK (-2) ?_ ?_
    · rw [f_X7_change, h1, zbd_some, if_neg (by decide), if_neg h0, if_neg (fun z => by
        have h1 := Int32.le_iff_toInt_le.mp h
        have h2 := Int32.le_iff_toInt_le.mp z
        rw [nI_toInt (by decide)] at h1
        have h3 : (1 : Int32).toInt = 1 := rfl
        omega)]; rfl
    · rw [f_X8_change, zb_eq, h2 _ hN.th, zbd_some, if_neg (by decide), wi_big _ (m := 1) (by decide) rfl h, zbd_some, if_neg (fun z => z rfl)]; rfl
  obtain ⟨⟨up1, up2, up3⟩, -⟩ := hN.2.1 p hp
  obtain ⟨⟨uq1, uq2, uq3⟩, -⟩ := hN.2.1 q hq
  obtain ⟨r, s1, a1, a2, a3⟩ := near7 hK.1.1.1 up3 uq3
  have k1 : zk_k CC s s1 := a3.mono (by decide)
  have hK1 : JK s1 n G M H c0 c1 A B := hK.keep a3 (by decide)
  have hN1 := hN.c k1
  obtain ⟨r2, s2, b1, b2, b3⟩ := change8 hN1.th.m hp hq hpq hk
  have er := a2.uni b1
  subst er
  refine ⟨zcans k (G p) r, s1, s2, ?_, ?_, hK1, k1, zk_m.th.tr (b3.mono (by decide)), by rw [(b3.1 93 (by decide)).1, zs_i_n _ _ _ _ _ (by decide)]⟩
  · rw [f_X7_change, h1, zbd_some, if_neg (by decide), if_neg (nI_pos (by omega)), if_pos (show nI k ≤ (1 : Int32) from le_c 1 rfl (by omega) (by decide)), rd_4 s p rfl (by omega), Option.bind_some, rd_4 s q rfl (by omega), Option.bind_some, up2, uq2, a1, zbd_some]
    cases hr : r with
    | none => rw [show oI none = (-1 : Int32) from rfl, if_neg (by decide)]; rfl
    | some z =>
      have hz : z < 512 := by
        rcases a2 with ⟨e, -⟩ | ⟨x, e, hx, -⟩
        · rw [hr] at e; cases e
        · rw [hr] at e; cases e; exact hx
      rw [show oI (some z) = nI z from rfl, if_pos (nI_pos' (by omega)), rd_4 s1 p rfl (by omega), Option.bind_some, (a3 4 (by decide)).1, up2, nI_xor, bc_ok s1 (xor_lt hz up3), zbd_some]
      by_cases e : k = 1
      · subst e; rw [if_neg (fun z => z rfl)]; rfl
      · rw [if_pos (show ¬ nI k = (1 : Int32) from ne_c 1 rfl e (by omega) (by decide))]
        show some (nI (zcd (G p) z), s1) = some (if k = 1 then nI z else nI (zcd (G p) z), s1)
        rw [if_neg e]
  · rw [f_X8_change, zb_eq, h2 _ hN1.th, zbd_some, if_neg (by decide), wi_in _ (m := 1) (by omega) (by decide) rfl, zbd_some, if_pos (by decide), rd_77 _ (29 + p) (nI_add _ _) (by omega), Option.bind_some, (hN1.th.2.1 p hp).1.1, b2]
end CHANGE8
