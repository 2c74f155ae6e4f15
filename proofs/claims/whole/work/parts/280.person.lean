section PERSLINE
variable {b : Nat → Nat} {L N k k1 k2 m w kd j ln : Nat} {s t u : zS} {cs ds : List Nat} {X : DTY} {a : Nat → Nat}
/-- one more person, with fields a -/
def gA (g : Nat → Nat → Nat) (n : Nat) (a : Nat → Nat) : Nat → Nat → Nat := fun f p => if p = n then a f else g f p
def XA (X : DTY) (a : Nat → Nat) : DTY := (X.1 + 1, gA X.2.1 X.1 a, X.2.2)
def aB (a : Nat → Nat) : Prop := a 0 < 512 ∧ a 1 < 10 ∧ a 2 ≤ 10 ∧ a 3 < 10
def DRf (s : zS) (ln : Nat) (X : DTY) (a : Nat → Nat) : Prop := DR1 s ln X ∧ ZR s (X.1 + 1) ∧ ∀ f, f < 4 → s.1 80 (rbs f + X.1) = nI (a f)
theorem gA_n (g : Nat → Nat → Nat) (n : Nat) (a : Nat → Nat) (f : Nat) : gA g n a f n = a f := if_pos rfl
theorem gA_o (g : Nat → Nat → Nat) {n p : Nat} (a : Nat → Nat) (f : Nat) (h : p ≠ n) : gA g n a f p = g f p := if_neg h
theorem XA_X (hX : DX X m) (h7 : X.1 < 7) (ha : aB a) : DX (XA X a) m := by
  refine ⟨show X.1 + 1 ≤ 7 by omega, fun p hp => ?_, fun p hp => ?_, fun p hp hp7 => hX.2.2.2.1 p (Nat.le_of_succ_le hp) hp7, hX.2.2.2.2⟩
  · show gA X.2.1 X.1 a 0 p < 512 ∧ gA X.2.1 X.1 a 1 p < 10 ∧ gA X.2.1 X.1 a 2 p ≤ 10 ∧ gA X.2.1 X.1 a 3 p < 10
    have hp : p < X.1 + 1 := hp
    by_cases e : p = X.1
    · subst e
      rw [gA_n, gA_n, gA_n, gA_n]; exact ha
    · rw [gA_o _ _ _ e, gA_o _ _ _ e, gA_o _ _ _ e, gA_o _ _ _ e]
      exact hX.2.1 p (by omega)
  · have hp : p < X.1 + 1 := hp
    show X.2.2.1 p = -1 ∨ ∃ q, q < X.1 + 1 ∧ q ≠ p ∧ X.2.2.1 p = nI q ∧ X.2.2.1 q = nI p
    by_cases e : p = X.1
    · exact Or.inl (hX.2.2.2.1 p (by omega) (by omega))
    · rcases hX.2.2.1 p (by omega) with q | ⟨q, q1, q2, q3, q4⟩
      · exact Or.inl q
      · exact Or.inr ⟨q, by omega, q2, q3, q4⟩
theorem DRf.st (hD : DRf s ln X a) (hX : DX X m) (h7 : X.1 < 7) (h : RS s t b L N k m cs) : DRf t ln X a := ⟨hD.1.st hX h, hD.2.1.st h, fun f hf => by
  have := rbs_r (f := f) X.1 hf h7
  rw [h.2.2.2.2.2 _ (by omega)]; exact hD.2.2 f hf⟩
theorem rF7 (n : Nat) (v1 v2 : Int32) (s : zS) : f_X3_readFlags_2 (n + 1) v1 v2 s = if (nI 900) ≤ v2 then (zbd (f_X3_refuse (nI 2) s) fun r6 s7 => if r6 = 0 ∨ r6 = 1 then some (r6, s7) else none) else (zr_i s 40 (s.1 30 5)).bind fun x8 => if x8 = (nI 1215) then (f_X3_readFlags_42 (f_X3_readFlags_2 n) v1 v2 x8 s) else if x8 = (nI 1205) then (f_X3_readFlags_42 (f_X3_readFlags_2 n) v1 v2 x8 s) else if x8 = (nI 1206) then (f_X3_readFlags_42 (f_X3_readFlags_2 n) v1 v2 x8 s) else some ((1 : Int32), s) := rfl
theorem rP103 (n : Nat) (v1 : Int32) (s : zS) : f_X8_readPerson_103 (n + 1) v1 s = if ¬ (s.1 76 11) = 0 then (f_X8_readPerson_121 s) else zbd (f_X8_readFlag v1 s) fun r3 s4 => if r3 = 0 then (f_X8_readPerson_121 s4) else f_X8_readPerson_103 n v1 s4 := rfl
def fB (f : Nat) : Nat := if f = 2 then 10 else 9
theorem p121_dead (h : ¬ s.1 76 11 = 0) : f_X8_readPerson_121 s = some ((), s) := by
  rw [f_X8_readPerson_121, if_pos h]; rfl
theorem flagC {n7 i : Nat} {kb : Int32 → Int32 → zS → Option (Int32 × zS)} {f : Nat} (hf : 0 < f) (hf4 : f < 4) (hTN : TN b L N) (hk : k ≤ N) (hK : TK b L k = 2 + f) (hC : CT s b L N k m) {v1 v2 : Int32} : ∃ s1, CS s s1 b L N (k + 1) m [] ∧ f_X3_readFlags_42 kb v1 v2 (nI (TC b L k)) s = zbd (f_X3_takeNumber (nI (fB f)) s1) fun r3 s4 => if 0 ≤ r3 then f_X3_readFlags_114 kb v1 v2 r3 (32 + f) s4 else some ((0 : Int32), s4) := by
  have hkN := TK_N hTN hk (by omega)
  have e3 : nI (TC b L k) = nI 1215 ↔ TK b L k = 3 := tcE hTN hk (by decide) (by decide) rfl
  have e4 : nI (TC b L k) = nI 1205 ↔ TK b L k = 4 := tcE hTN hk (by decide) (by decide) rfl
  obtain ⟨s1, g1, g2⟩ := stepS hC hkN
  refine ⟨s1, g2, ?_⟩
  rcases (show f = 1 ∨ f = 2 ∨ f = 3 by omega) with q | q | q
  · subst q
    rw [f_X3_readFlags_42, g1, zbd_some, if_pos (fun z => by have := e4.mp z; omega), f_X3_readFlags_61, e3.mpr hK]
    exact congrArg (zbd (f_X3_takeNumber (nI 9) s1)) (funext fun r3 => funext fun s4 => by rw [if_neg (show ¬ ¬ nI 1215 = nI 1215 from fun z => z rfl)])
  · subst q
    rw [f_X3_readFlags_42, g1, zbd_some, if_neg (fun z => z (e4.mpr hK)), f_X3_readFlags_61, e4.mpr hK]
    exact congrArg (zbd (f_X3_takeNumber (nI 10) s1)) (funext fun r3 => funext fun s4 => by rw [if_pos (show ¬ nI 1205 = nI 1215 by decide), if_neg (show ¬ ¬ nI 1205 = nI 1205 from fun z => z rfl)])
  · subst q
    rw [f_X3_readFlags_42, g1, zbd_some, if_pos (fun z => by have := e4.mp z; omega), f_X3_readFlags_61]
    exact congrArg (zbd (f_X3_takeNumber (nI 9) s1)) (funext fun r3 => funext fun s4 => by rw [if_pos (show ¬ nI (TC b L k) = nI 1215 from fun z => by have := e3.mp z; omega), if_pos (show ¬ nI (TC b L k) = nI 1205 from fun z => by have := e4.mp z; omega)])
theorem flagR {f : Nat} (hf : 0 < f) (hf4 : f < 4) (hK : TK b L k = 2 + f) (hR : RT s b L N k m) {v1 : Int32} : ∃ s1, RS s s1 b L N (k + 1) m [] ∧ f_X8_readFlag v1 s = zbd (f_X8_takes 0 (nI (fB f)) s1) fun r s2 => (zw_i s2 80 (nI (rbs f) + v1) r).bind fun s3 => f_X8_readFlag_83 s3 := by
  rcases (show f = 1 ∨ f = 2 ∨ f = 3 by omega) with q | q | q
  · subst q
    obtain ⟨s1, g1, g2⟩ := (eatsS hR (x := 3) (by decide) (by decide)).1 hK
    exact ⟨s1, g2, by rw [f_X8_readFlag, g1, zbd_some, if_neg (by decide)]; rfl⟩
  · subst q
    obtain ⟨s1, g1, g2⟩ := (eatsS hR (x := 4) (by decide) (by decide)).1 hK
    exact ⟨s1, g2, by rw [f_X8_readFlag, (eatsS hR (x := 3) (by decide) (by decide)).2 (by omega), zbd_some, if_pos rfl, g1, zbd_some, if_neg (by decide)]; rfl⟩
  · subst q
    obtain ⟨s1, g1, g2⟩ := (eatsS hR (x := 5) (by decide) (by decide)).1 hK
    exact ⟨s1, g2, by rw [f_X8_readFlag, (eatsS hR (x := 3) (by decide) (by decide)).2 (by omega), zbd_some, if_pos rfl, (eatsS hR (x := 4) (by decide) (by decide)).2 (by omega), zbd_some, if_pos rfl, g1, zbd_some, if_neg (by decide)]; rfl⟩
theorem wrF {f p : Nat} (hf : f < 4) (hp : p < 7) (v : Int32) : zw_i s (32 + f) (nI p) v = some (zs_i s (32 + f) p v) := by
  rcases (show f = 0 ∨ f = 1 ∨ f = 2 ∨ f = 3 by omega) with q | q | q | q
  · subst q; exact wr_32 s p rfl hp
  · subst q; exact wr_33 s p rfl hp
  · subst q; exact wr_34 s p rfl hp
  · subst q; exact wr_35 s p rfl hp
theorem flags (hTN : TN b L N) (hX : DX X m) (h7 : X.1 < 7) : ∀ c k, k ≤ N → N - k < c → c ≤ zFU → ∀ a, aB a → ∀ n7 n8 i, c ≤ n7 → c ≤ n8 → i + (N - k) < 900 → LNB (f_X3_readFlags_2 n7 (nI X.1) (nI i)) (f_X8_readPerson_103 n8 (nI X.1)) (fun s => DCx s ln (XA X a)) (fun s => DRf s ln X a) b L N k m ln := by
  intro c
  induction c with
  | zero => intro k _ h; omega
  | succ c ih =>
    intro k hk hlt hfu a ha n7 n8 i h7' h8' hi
    obtain ⟨n7, rfl⟩ : ∃ q, n7 = q + 1 := ⟨n7 - 1, by omega⟩
    obtain ⟨n8, rfl⟩ : ∃ q, n8 = q + 1 := ⟨n8 - 1, by omega⟩
    have e3 : nI (TC b L k) = nI 1215 ↔ TK b L k = 3 := tcE hTN hk (by decide) (by decide) rfl
    have e4 : nI (TC b L k) = nI 1205 ↔ TK b L k = 4 := tcE hTN hk (by decide) (by decide) rfl
    have e5 : nI (TC b L k) = nI 1206 ↔ TK b L k = 5 := tcE hTN hk (by decide) (by decide) rfl
    have hXA := XA_X hX h7 ha
    by_cases hfl : TK b L k = 3 ∨ TK b L k = 4 ∨ TK b L k = 5
    · obtain ⟨f, hf, hf4, hK⟩ : ∃ f, 0 < f ∧ f < 4 ∧ TK b L k = 2 + f := ⟨TK b L k - 2, by omega, by omega, by omega⟩
      have hkN := TK_N hTN hk (by omega)
      have hfb : fB f ≤ 10 := by
        unfold fB
        by_cases e : f = 2
        · rw [if_pos e]; omega
        · rw [if_neg e]; omega
      have cC : ∀ s, CT s b L N k m → ∃ s1, CS s s1 b L N (k + 1) m [] ∧ f_X3_readFlags_2 (n7 + 1) (nI X.1) (nI i) s = zbd (f_X3_takeNumber (nI (fB f)) s1) fun r3 s4 => if 0 ≤ r3 then f_X3_readFlags_114 (f_X3_readFlags_2 n7) (nI X.1) (nI i) r3 (32 + f) s4 else some ((0 : Int32), s4) := fun s hC => by
        obtain ⟨s1, g1, g2⟩ := flagC (n7 := n7) (i := i) (kb := f_X3_readFlags_2 n7) (v1 := nI X.1) (v2 := nI i) hf hf4 hTN hk hK hC
        refine ⟨s1, g1, ?_⟩
        rw [rF7, if_neg (nI_ge (by omega) (by decide)), tok7 hC, Option.bind_some]
        by_cases q3 : TK b L k = 3
        · rw [if_pos (e3.mpr q3), g2]
        · rw [if_neg (fun z => q3 (e3.mp z))]
          by_cases q4 : TK b L k = 4
          · rw [if_pos (e4.mpr q4), g2]
          · rw [if_neg (fun z => q4 (e4.mp z)), if_pos (e5.mpr (by omega)), g2]
      have hv2 : nI (fB f) = nI (fB f + 1) - 1 := by
        unfold fB
        by_cases e : f = 2
        · rw [if_pos e]; rfl
        · rw [if_neg e]; rfl
      -- what is bad
      have bad : ∀ kd, 0 < kd → kd < 5 → (∀ s1, CT s1 b L N (k + 1) m → ∃ s', f_X3_takeNumber (nI (fB f)) s1 = some (-1, s') ∧ CB s1 s' b L kd (k + 1)) → (∀ s1, RT s1 b L N (k + 1) m → ∃ r s', f_X8_takes 0 (nI (fB f)) s1 = some (r, s') ∧ RB s1 s' b L kd (k + 1)) → LNB (f_X3_readFlags_2 (n7 + 1) (nI X.1) (nI i)) (f_X8_readPerson_103 (n8 + 1) (nI X.1)) (fun s => DCx s ln (XA X a)) (fun s => DRf s ln X a) b L N k m ln := fun kd k0 k5 bC bR => by
        refine Or.inl ⟨kd, k + 1, k0, k5, by omega, fun s hC hD => ?_, fun s hR hD => ?_⟩
        · obtain ⟨s1, g1, g2⟩ := cC s hC
          obtain ⟨s2, t1, t2⟩ := bC s1 g1.1
          refine ⟨s2, ?_, CB2.pre g1.2.2.2.c2 t2.c2⟩
          rw [g2, t1, zbd_some, if_neg (by decide)]
        · obtain ⟨s1, g1, g2⟩ := flagR (v1 := nI X.1) hf hf4 hK hR
          obtain ⟨r, s2, t1, t2⟩ := bR s1 g1.1
          have hdd := t2.dead k0 k5
          have t3 : RB2 s s2 b L kd (k + 1) := RB2.pre g1.2.2.2.r2 t2.r2
          have hr := rbs_r (f := f) X.1 hf4 h7
          have hd3 : ¬ (zs_i s2 80 (rbs f + X.1) r).1 76 11 = 0 := by rw [zs_i_n _ _ _ _ _ (by decide)]; exact hdd
          refine ⟨zs_i s2 80 (rbs f + X.1) r, ?_, by rw [zs_i_n _ _ _ _ _ (by decide)]; exact t3.1, by rw [zs_i_n _ _ _ _ _ (by decide)]; exact t3.2.1, t3.2.2.i⟩
          rw [rP103, if_neg (fun z => z hR.2.2.2.2.2.2.2.1), g2, t1, zbd_some, wr_80 s2 (rbs f + X.1) (nI_add _ _) (by omega), Option.bind_some, f_X8_readFlag_83, if_pos hd3, f_X8_readFlag_95, if_pos (Or.inl rfl), zbd_some, if_pos rfl, p121_dead hd3]
      by_cases h23 : TK b L (k + 1) = 23
      · by_cases hv : TV b L (k + 1) ≤ fB f
        · have hkN1 := TK_N hTN (show k + 1 ≤ N by omega) (by omega)
          have ha2 : aB (fun q => if q = f then TV b L (k + 1) else a q) := by
            unfold fB at hv
            refine ⟨?_, ?_, ?_, ?_⟩
            · show (if 0 = f then TV b L (k + 1) else a 0) < 512
              rw [if_neg (by omega)]; exact ha.1
            · show (if 1 = f then TV b L (k + 1) else a 1) < 10
              by_cases e : 1 = f
              · rw [if_neg (by omega)] at hv; rw [if_pos e]; omega
              · rw [if_neg e]; exact ha.2.1
            · show (if 2 = f then TV b L (k + 1) else a 2) ≤ 10
              by_cases e : 2 = f
              · rw [if_pos (by omega)] at hv; rw [if_pos e]; omega
              · rw [if_neg e]; exact ha.2.2.1
            · show (if 3 = f then TV b L (k + 1) else a 3) < 10
              by_cases e : 3 = f
              · rw [if_neg (by omega)] at hv; rw [if_pos e]; omega
              · rw [if_neg e]; exact ha.2.2.2
          have dC : ∀ s, CT s b L N k m → DCx s ln (XA X a) → ∃ s1, CT s1 b L N (k + 2) m ∧ DCx s1 ln (XA X (fun q => if q = f then TV b L (k + 1) else a q)) ∧ CF2 s s1 ∧ f_X3_readFlags_2 (n7 + 1) (nI X.1) (nI i) s = f_X3_readFlags_2 n7 (nI X.1) (nI (i + 1)) s1 := fun s hC hD => by
            obtain ⟨s1, g1, g2⟩ := cC s hC
            have hD1 := hD.st hXA g1
            obtain ⟨s2, t1, t2⟩ := (number7 g1.1 (B := fB f) (by omega)).1 h23 hv
            obtain ⟨d1, d2, d3, d4, d5⟩ := hD1.st hXA t2
            have hC2 : CT s2 b L N (k + 2) m := t2.1
            have hm : 32 + f ∈ [31, 32, 33, 34, 35, 36, 37] := by
              simp only [List.mem_cons, List.not_mem_nil, or_false]
              omega
            refine ⟨zs_i s2 (32 + f) X.1 (nI (TV b L (k + 1))), CT.in (by omega) hC2, ⟨by rw [zs_i_n _ _ _ _ _ (by omega)]; exact d1, by rw [zs_i_n _ _ _ _ _ (by omega)]; exact d2, fun f2 p hf2 hp => ?_, fun p hp => by rw [zs_i_n _ _ _ _ _ (by omega)]; exact d4 p hp, fun q hq => by rw [zs_i_n _ _ _ _ _ (by omega), zs_i_n _ _ _ _ _ (by omega)]; exact d5 q hq⟩, (g1.2.2.2.c2.tr t2.2.2.2.c2).i hm, ?_⟩
            · show _ = nI (gA X.2.1 X.1 (fun q => if q = f then TV b L (k + 1) else a q) f2 p)
              have h0 : s2.1 (32 + f2) p = nI (gA X.2.1 X.1 a f2 p) := d3 f2 p hf2 hp
              by_cases e : p = X.1
              · subst e
                rw [gA_n] at h0 ⊢
                by_cases ef : f2 = f
                · subst ef
                  rw [if_pos rfl]; exact zs_i_v _ _ _ _
                · rw [if_neg ef, zs_i_n _ _ _ _ _ (by omega)]; exact h0
              · rw [gA_o _ _ _ e] at h0 ⊢
                by_cases ef : f2 = f
                · subst ef
                  rw [zs_i_o _ _ _ _ _ e]; exact h0
                · rw [zs_i_n _ _ _ _ _ (by omega)]; exact h0
            · rw [g2, t1, zbd_some, if_pos (show (0 : Int32) ≤ nI (TV b L (k + 1)) from nI_le (Nat.zero_le _) (by omega)), f_X3_readFlags_114, wrF hf4 h7, Option.bind_some, zb_eq, nI_1]
          have dR : ∀ s, RT s b L N k m → DRf s ln X a → ∃ s1, RT s1 b L N (k + 2) m ∧ DRf s1 ln X (fun q => if q = f then TV b L (k + 1) else a q) ∧ RF2 s s1 ∧ f_X8_readPerson_103 (n8 + 1) (nI X.1) s = f_X8_readPerson_103 n8 (nI X.1) s1 := fun s hR hD => by
            obtain ⟨s1, g1, g2⟩ := flagR (v1 := nI X.1) hf hf4 hK hR
            have hD1 := hD.st hX h7 g1
            obtain ⟨s2, t1, t2⟩ := (takes8 g1.1 (z := fB f + 1) (by omega) hv2).1 h23 (by omega)
            obtain ⟨⟨d1, d2, d3, d4, d5, d6⟩, dz, df⟩ := hD1.st hX h7 t2
            have hR2 : RT s2 b L N (k + 2) m := t2.1
            have hr := rbs_r (f := f) X.1 hf4 h7
            have hR3 : RT (zs_i s2 80 (rbs f + X.1) (nI (TV b L (k + 1)))) b L N (k + 2) m := RT.i80 (by omega) hR2
            refine ⟨zs_i s2 80 (rbs f + X.1) (nI (TV b L (k + 1))), hR3, ⟨⟨by rw [zs_i_o _ _ _ _ _ (by omega)]; exact d1, by rw [zs_i_o _ _ _ _ _ (by omega)]; exact d2, by rw [zs_i_o _ _ _ _ _ (by omega)]; exact d3, fun f2 p hf2 hp => ?_, fun p hp => by rw [zs_i_o _ _ _ _ _ (by omega)]; exact d5 p hp, fun q hq => ⟨fun z => ?_, fun z => ?_⟩⟩, fun f2 p hf2 hp hp7 => ?_, fun f2 hf2 => ?_⟩, (g1.2.2.2.r2.tr t2.2.2.2.r2).i, ?_⟩
            · rw [zs_i_o _ _ _ _ _ (fun z => by have := (rbs_i hf2 hf4 (by omega) h7 z).2; omega)]; exact d4 f2 p hf2 hp
            · rw [zs_i_o _ _ _ _ _ (by omega)]; exact (d6 q hq).1 z
            · obtain ⟨a1, a2, a3, a4⟩ := (d6 q hq).2 z
              exact ⟨by rw [zs_i_o _ _ _ _ _ (by omega)]; exact a1, by rw [zs_i_o _ _ _ _ _ (by omega)]; exact a2, by rw [zs_i_o _ _ _ _ _ (by omega)]; exact a3, fun i hi => by rw [zs_i_o _ _ _ _ _ (by omega)]; exact a4 i hi⟩
            · rw [zs_i_o _ _ _ _ _ (fun z => by have := (rbs_i (by omega) hf4 hp7 h7 z).2; omega)]; exact dz f2 p hf2 hp hp7
            · dsimp only
              by_cases ef : f2 = f
              · subst ef
                rw [if_pos rfl]; exact zs_i_v _ _ _ _
              · rw [if_neg ef, zs_i_o _ _ _ _ _ (fun z => ef (rbs_i hf2 hf4 h7 h7 z).1)]; exact df f2 hf2
            · rw [rP103, if_neg (fun z => z hR.2.2.2.2.2.2.2.1), g2, t1, zbd_some, wr_80 s2 (rbs f + X.1) (nI_add _ _) (by omega), Option.bind_some, f_X8_readFlag_83, if_neg (fun z => z hR3.2.2.2.2.2.2.2.1), f_X8_readFlag_95, if_pos (Or.inr rfl), zbd_some, if_neg (by decide)]
          rcases ih (k + 2) (by omega) (by omega) (by omega) (fun q => if q = f then TV b L (k + 1) else a q) ha2 n7 n8 (i + 1) (by omega) (by omega) (by omega) with ⟨kd, j, b1, b2, b3, bC, bR⟩ | ⟨k2, m2, X2, o1, o2, o3, oC, oR⟩
          · refine Or.inl ⟨kd, j, b1, b2, b3, fun s hC hD => ?_, fun s hR hD => ?_⟩
            · obtain ⟨s1, c1, c2, c3, c4⟩ := dC s hC hD
              obtain ⟨s2, q1, q2⟩ := bC s1 c1 c2
              exact ⟨s2, c4.trans q1, CB2.pre c3 q2⟩
            · obtain ⟨s1, c1, c2, c3, c4⟩ := dR s hR hD
              obtain ⟨s2, q1, q2⟩ := bR s1 c1 c2
              exact ⟨s2, c4.trans q1, RB2.pre c3 q2⟩
          · refine Or.inr ⟨k2, m2, X2, by omega, o2, o3, fun s hC hD => ?_, fun s hR hD => ?_⟩
            · obtain ⟨s1, c1, c2, c3, c4⟩ := dC s hC hD
              obtain ⟨s2, q1, q2, q3, q4⟩ := oC s1 c1 c2
              exact ⟨s2, c4.trans q1, q2, q3, c3.tr q4⟩
            · obtain ⟨s1, c1, c2, c3, c4⟩ := dR s hR hD
              obtain ⟨s2, q1, q2, q3, q4⟩ := oR s1 c1 c2
              exact ⟨s2, c4.trans q1, q2, q3, c3.tr q4⟩
        · exact bad 3 (by decide) (by decide) (fun s1 h1 => (number7 h1 (B := fB f) (by omega)).2.1 h23 (by omega)) (fun s1 h1 => (takes8 h1 (z := fB f + 1) (by omega) hv2).2.1 h23 (by omega))
      · have hf2 := fkd_r (b := b) (L := L) (k := k + 1) (v := 2) (by decide) (by decide)
        exact bad _ hf2.1 hf2.2 (fun s1 h1 => (number7 h1 (B := fB f) (by omega)).2.2 h23) (fun s1 h1 => (takes8 h1 (z := fB f + 1) (by omega) hv2).2.2 h23)
    · refine Or.inr ⟨k, m, XA X a, Nat.le_refl _, hk, hXA, fun s hC hD => ⟨s, ?_, hC, hD, CF2.rf⟩, fun s hR hD => ?_⟩
      · rw [rF7, if_neg (nI_ge (by omega) (by decide)), tok7 hC, Option.bind_some, if_neg (fun z => hfl (Or.inl (e3.mp z))), if_neg (fun z => hfl (Or.inr (Or.inl (e4.mp z)))), if_neg (fun z => hfl (Or.inr (Or.inr (e5.mp z))))]
      · obtain ⟨⟨d1, d2, d3, d4, d5, d6⟩, dz, df⟩ := hD
        refine ⟨zs_i s 80 1 (nI (X.1 + 1)), ?_, RT.i80 (by decide) hR, ⟨⟨zs_i_v _ _ _ _, by rw [zs_i_o _ _ _ _ _ (by decide)]; exact d2, by rw [zs_i_o _ _ _ _ _ (by decide)]; exact d3, fun f p hf hp => ?_, fun p hp => by rw [zs_i_o _ _ _ _ _ (by omega)]; exact d5 p hp, fun q hq => ⟨fun z => ?_, fun z => ?_⟩⟩, fun f p hf hp hp7 => ?_⟩, (RF2.rf).i⟩
        · rw [rP103, if_neg (fun z => z hR.2.2.2.2.2.2.2.1), f_X8_readFlag, (eatsS hR (x := 3) (by decide) (by decide)).2 (fun z => hfl (Or.inl z)), zbd_some, if_pos rfl, (eatsS hR (x := 4) (by decide) (by decide)).2 (fun z => hfl (Or.inr (Or.inl z))), zbd_some, if_pos rfl, (eatsS hR (x := 5) (by decide) (by decide)).2 (fun z => hfl (Or.inr (Or.inr z))), zbd_some, if_pos rfl, zbd_some, if_pos rfl, f_X8_readPerson_121, if_neg (fun z => z hR.2.2.2.2.2.2.2.1), rd_80 s (x := 1) 1 rfl (by decide), Option.bind_some, d1, nI_1, wr_80 s (x := 1) 1 rfl (by decide), Option.bind_some]; rfl
        · have hp : p < X.1 + 1 := hp
          have hr := rbs_r (f := f) p hf (by omega)
          rw [zs_i_o _ _ _ _ _ (by omega)]
          show _ = nI (gA X.2.1 X.1 a f p)
          by_cases e : p = X.1
          · subst e
            rw [gA_n]; exact df f hf
          · rw [gA_o _ _ _ e]; exact d4 f p hf (by omega)
        · rw [zs_i_o _ _ _ _ _ (by omega)]; exact (d6 q hq).1 z
        · obtain ⟨a1, a2, a3, a4⟩ := (d6 q hq).2 z
          exact ⟨by rw [zs_i_o _ _ _ _ _ (by omega)]; exact a1, by rw [zs_i_o _ _ _ _ _ (by omega)]; exact a2, by rw [zs_i_o _ _ _ _ _ (by omega)]; exact a3, fun i hi => by rw [zs_i_o _ _ _ _ _ (by omega)]; exact a4 i hi⟩
        · have hr := rbs_r (f := f) p (by omega) hp7
          rw [zs_i_o _ _ _ _ _ (by omega)]; exact dz f p hf hp hp7
end PERSLINE
