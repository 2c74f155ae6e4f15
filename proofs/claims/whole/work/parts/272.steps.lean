section STEPS
variable {b : Nat → Nat} {L N k k1 k2 m w kd j : Nat} {s t u : zS} {cs ds : List Nat}
theorem zt1_b (f : List Bool → Option (List Bool)) (g : List Bool → Option (List Bool)) : ∀ st, zt1 (fun x => (f x).bind g) st = (zt1 f st).bind g
  | [] => rfl
  | true :: _ => rfl
  | false :: _ => rfl
theorem zt2_b (x y : Bool) (f : List Bool → Option (List Bool)) (g : List Bool → Option (List Bool)) : ∀ st, zt2 x y (fun x => (f x).bind g) st = (zt2 x y f st).bind g
  | [] => rfl
  | [_] => rfl
  | a :: c :: r => by
    unfold zt2
    dsimp only
    by_cases h : a = x ∧ c = x
    · rw [if_pos h, if_pos h]
    · rw [if_neg h, if_neg h]; rfl
theorem zty_append (w : Nat) (ds : List Nat) : ∀ (cs : List Nat) (st : List Bool), zty w (cs ++ ds) st = (zty w cs st).bind (zty w ds) := by
  intro cs
  induction cs with
  | nil => intro st; rfl
  | cons c l ih =>
    intro st
    have hl : zty w (l ++ ds) = fun x => (zty w l x).bind (zty w ds) := funext ih
    rw [List.cons_append, zty, zty, hl]
    by_cases h1 : zword w c = true
    · rw [if_pos h1, if_pos h1]
      by_cases h2 : st.length < 32
      · rw [if_pos h2, if_pos h2]
      · rw [if_neg h2, if_neg h2]; rfl
    · rw [if_neg h1, if_neg h1]
      by_cases h2 : c = 3006
      · rw [if_pos h2, if_pos h2]; exact zt1_b _ _ _
      · rw [if_neg h2, if_neg h2]
        by_cases h3 : c = 3000 ∨ c = 3001 ∨ c = 3002
        · rw [if_pos h3, if_pos h3]; exact zt2_b _ _ _ _ _
        · rw [if_neg h3, if_neg h3]
          by_cases h4 : c = 3003 ∨ c = 3004 ∨ c = 3005
          · rw [if_pos h4, if_pos h4]; exact zt2_b _ _ _ _ _
          · rw [if_neg h4, if_neg h4]
            by_cases h5 : c = 3007 ∨ c = 3008
            · rw [if_pos h5, if_pos h5]; exact zt2_b _ _ _ _ _
            · rw [if_neg h5, if_neg h5]; rfl
theorem gD_l {i : Nat} (h : i < cs.length) : (cs ++ ds).getD i 0 = cs.getD i 0 := by
  rw [List.getD_eq_getElem?_getD, List.getD_eq_getElem?_getD, List.getElem?_append_left h]
theorem gD_r {i : Nat} (h : cs.length ≤ i) : (cs ++ ds).getD i 0 = ds.getD (i - cs.length) 0 := by
  rw [List.getD_eq_getElem?_getD, List.getD_eq_getElem?_getD, List.getElem?_append_right h]
/-- the class went on to token k2, with codes cs behind m -/
def CS (s s' : zS) (b : Nat → Nat) (L N k2 m : Nat) (cs : List Nat) : Prop := CT s' b L N k2 (m + cs.length) ∧ (∀ i, i < cs.length → s'.1 37 (m + i) = nI (zenc (cs.getD i 0))) ∧ (∀ i, i < m → s'.1 37 i = s.1 37 i) ∧ CF s s'
def RS (s s' : zS) (b : Nat → Nat) (L N k2 m : Nat) (cs : List Nat) : Prop := RT s' b L N k2 (m + cs.length) ∧ (∀ i, i < cs.length → s'.1 80 (255 + m + i) = nI (cs.getD i 0)) ∧ (∀ i, i < m → s'.1 80 (255 + i) = s.1 80 (255 + i)) ∧ RF s s'
/-- the class refused at token j -/
def CB (s s' : zS) (b : Nat → Nat) (L kd j : Nat) : Prop := s'.1 30 1 = nI kd ∧ s'.1 30 2 = nI (lxB b L j) ∧ CF s s'
def RB (s s' : zS) (b : Nat → Nat) (L kd j : Nat) : Prop := s'.1 76 11 = nI kd ∧ s'.1 76 12 = nI (lxB b L j) ∧ RF s s'
theorem CS.tr (h1 : CS s t b L N k1 m cs) (h2 : CS t u b L N k2 (m + cs.length) ds) : CS s u b L N k2 m (cs ++ ds) := by
  obtain ⟨a1, a2, a3, a4⟩ := h1
  obtain ⟨c1, c2, c3, c4⟩ := h2
  refine ⟨?_, fun i hi => ?_, fun i hi => (c3 i (by omega)).trans (a3 i hi), a4.tr c4⟩
  · rw [List.length_append, ← Nat.add_assoc]; exact c1
  · by_cases h : i < cs.length
    · rw [c3 (m + i) (by omega), a2 i h, gD_l h]
    · rw [List.length_append] at hi
      have e : m + i = m + cs.length + (i - cs.length) := by omega
      rw [e, c2 (i - cs.length) (by omega), gD_r (by omega)]
theorem RS.tr (h1 : RS s t b L N k1 m cs) (h2 : RS t u b L N k2 (m + cs.length) ds) : RS s u b L N k2 m (cs ++ ds) := by
  obtain ⟨a1, a2, a3, a4⟩ := h1
  obtain ⟨c1, c2, c3, c4⟩ := h2
  refine ⟨?_, fun i hi => ?_, fun i hi => (c3 i (by omega)).trans (a3 i hi), a4.tr c4⟩
  · rw [List.length_append, ← Nat.add_assoc]; exact c1
  · by_cases h : i < cs.length
    · rw [show 255 + m + i = 255 + (m + i) from Nat.add_assoc _ _ _, c3 (m + i) (by omega), ← Nat.add_assoc, a2 i h, gD_l h]
    · rw [List.length_append] at hi
      have e : 255 + m + i = 255 + (m + cs.length) + (i - cs.length) := by omega
      rw [e, c2 (i - cs.length) (by omega), gD_r (by omega)]
theorem CS.bad (h1 : CS s t b L N k1 m cs) (h2 : CB t u b L kd j) : CB s u b L kd j := ⟨h2.1, h2.2.1, h1.2.2.2.tr h2.2.2⟩
theorem RS.bad (h1 : RS s t b L N k1 m cs) (h2 : RB t u b L kd j) : RB s u b L kd j := ⟨h2.1, h2.2.1, h1.2.2.2.tr h2.2.2⟩
theorem CS.ww (h : CS s t b L N k1 m cs) (hw : s.1 30 6 = nI w) : t.1 30 6 = nI w := (h.2.2.2.2.2 6 (by decide) (by decide) (by decide)).trans hw
theorem RS.ww (h : RS s t b L N k1 m cs) (hw : s.1 76 15 = nI w) : t.1 76 15 = nI w := (h.2.2.2.2.1 15 (by decide) (by decide) (by decide) (by decide) (by decide) (by decide)).trans hw
theorem RB.dead (h : RB s t b L kd j) (h0 : 0 < kd) (h5 : kd < 5) : ¬ t.1 76 11 = 0 := by
  rw [h.1]
  exact ne_of_nI (a := kd) (b := 0) (by omega) (by omega) (by omega)
theorem fkd_r {v : Nat} (h0 : 0 < v) (h5 : v < 5) : 0 < fkd b L k v ∧ fkd b L k v < 5 := by
  unfold fkd
  by_cases e : TK b L k = 25
  · rw [if_pos e]; omega
  · rw [if_neg e]; omega
theorem fkd_n {v : Nat} (h : ¬ TK b L k = 25) : fkd b L k v = v := if_neg h
theorem stepS (h : CT s b L N k m) (hk : k < N) : ∃ s', f_X3_step s = some ((), s') ∧ CS s s' b L N (k + 1) m [] :=
  ⟨_, (step7 h hk).1, (step7 h hk).2, fun i hi => absurd hi (Nat.not_lt_zero _), fun i _ => by rw [zs_i_n _ _ _ _ _ (by decide)], zk_k.rf.i (by decide), fun j _ => by rw [zs_i_n _ _ _ _ _ (by decide)], fun j _ _ h5 => zs_i_o _ _ _ _ _ h5⟩
theorem emitS {c : Nat} {x : Int32} (h : CT s b L N k m) (hm : m + 1 ≤ k) (hc : x = nI (zenc c)) : ∃ s', f_X3_emit x s = some ((), s') ∧ CS s s' b L N k m [c] := by
  have hN := h.1.2.1
  have hL := h.1.1
  have hk := h.2.2.1
  refine ⟨_, emit7 h.2.2.2.2.2.1 (by omega), ⟨h.1, fun i hi => h.2.1 i hi, h.2.2.1, h.2.2.2.1, h.2.2.2.2.1, zs_i_v _ _ _ _, hm⟩, fun i hi => ?_, fun i hi => ?_, ((zk_k.rf).i (by decide)).i (by decide), fun j hj => ?_, fun j _ _ _ => ?_⟩
  · have e : i = 0 := by
      have : i < 1 := hi
      omega
    subst e
    rw [zs_i_n _ _ _ _ _ (by decide)]
    exact (zs_i_v _ _ _ _).trans hc
  · rw [zs_i_n _ _ _ _ _ (by decide), zs_i_o _ _ _ _ _ (by omega)]
  · rw [zs_i_o _ _ _ _ _ hj, zs_i_n _ _ _ _ _ (by decide)]
  · rw [zs_i_n _ _ _ _ _ (by decide), zs_i_n _ _ _ _ _ (by decide)]
theorem putS {c : Nat} {x : Int32} (h : CT s b L N k m) (hk : k < N) (hc : x = nI (zenc c)) : ∃ s', (zbd (f_X3_emit x s) fun _ s1 => zbd (f_X3_step s1) fun _ s2 => some ((1 : Int32), s2)) = some (1, s') ∧ CS s s' b L N (k + 1) m [c] := by
  have hN := h.1.2.1
  have hL := h.1.1
  have hmk := h.2.2.2.2.2.2
  have h24 : ¬ TC b L k = 1000 := fun z => by
    have e := (TC_eq h.1 h.2.2.1 (x := 24) (by decide) (by decide)).mp z
    obtain ⟨r1, -⟩ := TK_r h.1 hk
    omega
  have hlt := TC_lt h.1 h.2.2.1
  have r30 : (zs_i (zs_i s 37 m x) 31 8 (nI (m + 1))).1 30 = s.1 30 := by rw [zs_i_n _ _ _ _ _ (by decide), zs_i_n _ _ _ _ _ (by decide)]
  have r40 : (zs_i (zs_i s 37 m x) 31 8 (nI (m + 1))).1 40 = s.1 40 := by rw [zs_i_n _ _ _ _ _ (by decide), zs_i_n _ _ _ _ _ (by decide)]
  have hs : f_X3_step (zs_i (zs_i s 37 m x) 31 8 (nI (m + 1))) = some ((), zs_i (zs_i (zs_i s 37 m x) 31 8 (nI (m + 1))) 30 5 (nI (k + 1))) := by
    rw [f_X3_step, r30, h.2.2.2.1, rd_40 _ k rfl (by omega), r40, (h.2.1 k h.2.2.1).1, Option.bind_some, if_neg (ne_of_nI h24 (by omega) (by omega)), if_neg (nI_ge (by omega) (by omega)), zb_eq, nI_1]; rfl
  refine ⟨zs_i (zs_i (zs_i s 37 m x) 31 8 (nI (m + 1))) 30 5 (nI (k + 1)), by rw [emit7 h.2.2.2.2.2.1 (by omega), zbd_some, hs, zbd_some], ⟨h.1, fun i hi => h.2.1 i hi, by omega, zs_i_v _ _ _ _, ?_, ?_, by show m + 1 ≤ k + 1; omega⟩, fun i hi => ?_, fun i hi => ?_, (((zk_k.rf).i (by decide)).i (by decide)).i (by decide), fun j hj => ?_, fun j _ _ h5 => ?_⟩
  · exact ⟨by rw [zs_i_o _ _ _ _ _ (by decide), r30]; exact h.2.2.2.2.1.1, by rw [zs_i_o _ _ _ _ _ (by decide), r30]; exact h.2.2.2.2.1.2⟩
  · rw [zs_i_n _ _ _ _ _ (by decide)]; exact zs_i_v _ _ _ _
  · have e : i = 0 := by
      have : i < 1 := hi
      omega
    subst e
    rw [zs_i_n _ _ _ _ _ (by decide), zs_i_n _ _ _ _ _ (by decide)]
    exact (zs_i_v _ _ _ _).trans hc
  · rw [zs_i_n _ _ _ _ _ (by decide), zs_i_n _ _ _ _ _ (by decide), zs_i_o _ _ _ _ _ (by omega)]
  · rw [zs_i_n _ _ _ _ _ (by decide), zs_i_o _ _ _ _ _ hj, zs_i_n _ _ _ _ _ (by decide)]
  · rw [zs_i_o _ _ _ _ _ h5, r30]
theorem refuseS (h : CT s b L N k m) (v : Nat) : ∃ s', f_X3_refuse (nI v) s = some (0, s') ∧ CB s s' b L (fkd b L k v) k := by
  refine ⟨_, refuse7 h v, ?_, zs_i_v _ _ _ _, ((zk_k.rf).i (by decide)).i (by decide), fun j _ => ?_, fun j h1 h2 _ => ?_⟩
  · rw [zs_i_o _ _ _ _ _ (by decide)]; exact zs_i_v _ _ _ _
  · rw [zs_i_n _ _ _ _ _ (by decide), zs_i_n _ _ _ _ _ (by decide)]
  · rw [zs_i_o _ _ _ _ _ h2, zs_i_o _ _ _ _ _ h1]
theorem takeS (h : CT s b L N k m) {x : Nat} (hx : x < 42) (hv : lxOk x = true) (h24 : x ≠ 24) : (TK b L k = x → ∃ s', f_X3_take (nI (lxK x 0)) s = some (1, s') ∧ CS s s' b L N (k + 1) m []) ∧ (¬ TK b L k = x → ∃ s', f_X3_take (nI (lxK x 0)) s = some (0, s') ∧ CB s s' b L (fkd b L k 2) k) := by
  refine ⟨fun e => ?_, fun e => ?_⟩
  · obtain ⟨hk, t1, -⟩ := (take7 h hx hv h24).1 e
    obtain ⟨s', g1, g2⟩ := stepS h hk
    rw [(step7 h hk).1] at g1
    obtain rfl : zs_i s 30 5 (nI (k + 1)) = s' := (Prod.mk.inj (Option.some.inj g1)).2
    exact ⟨_, t1, g2⟩
  · obtain ⟨s', g1, g2⟩ := refuseS h 2
    rw [refuse7 h 2] at g1
    obtain rfl := (Prod.mk.inj (Option.some.inj g1)).2
    exact ⟨_, (take7 h hx hv h24).2 e, g2⟩
end STEPS
section STEPR
variable {b : Nat → Nat} {L N k k1 k2 m w kd j : Nat} {s t u : zS} {cs ds : List Nat}
def RT0 (s : zS) (b : Nat → Nat) (L N k : Nat) : Prop := TN b L N ∧ T8 s b L ∧ k ≤ N ∧ s.1 76 6 = nI (lxB b L k) ∧ s.1 76 7 = nI (if k < N then lxN b L (lxB b L k) else L) ∧ s.1 76 9 = nI (TK b L k) ∧ (TK b L k = 23 → s.1 76 10 = nI (TV b L k)) ∧ s.1 76 11 = 0
theorem RT.z (h : RT s b L N k m) : RT0 s b L N k := ⟨h.1, h.2.1, h.2.2.1, h.2.2.2.1, h.2.2.2.2.1, h.2.2.2.2.2.1, h.2.2.2.2.2.2.1, h.2.2.2.2.2.2.2.1⟩
theorem RT0.mm (h : RT0 s b L N k) (h1 : s.1 80 254 = nI m) (h2 : m ≤ k) : RT s b L N k m := ⟨h.1, h.2.1, h.2.2.1, h.2.2.2.1, h.2.2.2.2.1, h.2.2.2.2.2.1, h.2.2.2.2.2.2.1, h.2.2.2.2.2.2.2, h1, h2⟩
theorem next0 (h : RT0 s b L N k) (hk : k < N) : ∃ s', f_X8_next s = some ((), s') ∧ RT0 s' b L N (k + 1) ∧ RX s s' := by
  obtain ⟨hTN, hT, h1, h6, h7, h9, h10, h11⟩ := h
  obtain ⟨n1, n2⟩ := lxN_b (b := b) (hTN.2.2.2 k hk)
  rw [if_pos hk] at h7
  obtain ⟨s', g1, g2, g3, g4, g5, g6⟩ := next8 hT h7 n2
  have eB : lxE (fun i => lxS (b i)) L (lxN b L (lxB b L k)) = lxB b L (k + 1) := by
    show _ = if lxB b L k < L then lxE (fun i => lxS (b i)) L (lxN b L (lxB b L k)) else L
    rw [if_pos (hTN.2.2.2 k hk)]
  rw [eB] at g3 g4 g5 g6
  refine ⟨s', g1, ⟨hTN, hT.x g2, by omega, g3, ?_, g5, g6, ?_⟩, g2⟩
  · rw [g4]
    by_cases e : k + 1 < N
    · rw [if_pos (hTN.2.2.2 _ e), if_pos e]
    · have : k + 1 = N := by omega
      rw [this, hTN.2.2.1, if_neg (Nat.lt_irrefl _), if_neg (Nat.lt_irrefl _)]
  · rw [g2.2 11 (by decide) (by decide) (by decide) (by decide)]; exact h11
theorem nextS (h : RT s b L N k m) (hk : k < N) : ∃ s', f_X8_next s = some ((), s') ∧ RS s s' b L N (k + 1) m [] := by
  obtain ⟨s', g1, g2, g3⟩ := nextR h hk
  exact ⟨s', g1, g2, fun i hi => absurd hi (Nat.not_lt_zero _), fun i _ => by rw [(g3.1 80 (by decide)).1], g3.r⟩
theorem eatsS (h : RT s b L N k m) {x : Nat} (hx : x < 100) (h24 : x ≠ 24) : (TK b L k = x → ∃ s', f_X8_eats (nI x) s = some (1, s') ∧ RS s s' b L N (k + 1) m []) ∧ (¬ TK b L k = x → f_X8_eats (nI x) s = some (0, s)) := by
  refine ⟨fun e => ?_, (eats8 h hx h24).2⟩
  obtain ⟨s', g1, g2, g3⟩ := (eats8 h hx h24).1 e
  exact ⟨s', g1, g2, fun i hi => absurd hi (Nat.not_lt_zero _), fun i _ => by rw [(g3.1 80 (by decide)).1], g3.r⟩
theorem codes_f {x : Int32} {c : Nat} (hT : RT0 s b L N k) (h8 : s.1 80 254 = nI m) (hm : m < 900) (hc : x = nI c) : ∃ s', f_X8_codes x s = some ((), s') ∧ RT0 s' b L N k ∧ s'.1 80 254 = nI (m + 1) ∧ s'.1 80 (255 + m) = nI c ∧ (∀ i, i < m → s'.1 80 (255 + i) = s.1 80 (255 + i)) ∧ RF s s' ∧ s'.1 76 = s.1 76 := by
  refine ⟨_, codes8 hT.2.2.2.2.2.2.2 h8 hm, hT, zs_i_v _ _ _ _, ?_, fun i hi => ?_, ⟨((zk_k.rf).i (by decide)).i (by decide), fun j _ _ _ _ _ _ => ?_, fun j hj => ?_⟩, ?_⟩
  · rw [zs_i_o _ _ _ _ _ (by omega)]; exact (zs_i_v _ _ _ _).trans hc
  · rw [zs_i_o _ _ _ _ _ (by omega), zs_i_o _ _ _ _ _ (by omega)]
  · rw [zs_i_n _ _ _ _ _ (by decide), zs_i_n _ _ _ _ _ (by decide)]
  · rw [zs_i_o _ _ _ _ _ (by omega), zs_i_o _ _ _ _ _ (by omega)]
  · rw [zs_i_n _ _ _ _ _ (by decide), zs_i_n _ _ _ _ _ (by decide)]
theorem codesS {c : Nat} {x : Int32} (h : RT s b L N k m) (hm : m + 1 ≤ k) (hc : x = nI c) : ∃ s', f_X8_codes x s = some ((), s') ∧ RS s s' b L N k m [c] := by
  have hN := h.1.2.1
  have hL := h.1.1
  have hk := h.2.2.1
  obtain ⟨s', g1, g2, g3, g4, g5, g6, -⟩ := codes_f h.z h.2.2.2.2.2.2.2.2.1 (by omega) hc
  refine ⟨s', g1, g2.mm g3 hm, fun i hi => ?_, g5, g6⟩
  have e : i = 0 := by
    have : i < 1 := hi
    omega
  subst e
  exact g4
theorem put8 {c : Nat} {x : Int32} (h : RT s b L N k m) (hk : k < N) (hc : x = nI c) : ∃ s1 s', f_X8_codes x s = some ((), s1) ∧ f_X8_next s1 = some ((), s') ∧ RS s s' b L N (k + 1) m [c] := by
  have hN := h.1.2.1
  have hL := h.1.1
  have hmk := h.2.2.2.2.2.2.2.2.2
  obtain ⟨s1, g1, g2, g3, g4, g5, g6, -⟩ := codes_f h.z h.2.2.2.2.2.2.2.2.1 (by omega) hc
  obtain ⟨s', q1, q2, q3⟩ := next0 g2 hk
  have e80 : s'.1 80 = s1.1 80 := (q3.1 80 (by decide)).1
  refine ⟨s1, s', g1, q1, q2.mm (by rw [e80]; exact g3) (by show m + 1 ≤ k + 1; omega), fun i hi => ?_, fun i hi => by rw [e80]; exact g5 i hi, g6.tr q3.r⟩
  have e : i = 0 := by
    have : i < 1 := hi
    omega
  subst e
  rw [e80]
  exact g4
theorem failsS (h : RT s b L N k m) (v : Nat) : ∃ s', f_X8_fails (nI v) s = some ((), s') ∧ RB s s' b L (fkd b L k v) k := by
  refine ⟨_, fails8 h v, ?_, zs_i_v _ _ _ _, ((zk_k.rf).i (by decide)).i (by decide), fun j _ _ _ _ h1 h2 => ?_, fun j _ => ?_⟩
  · rw [zs_i_o _ _ _ _ _ (by decide)]; exact zs_i_v _ _ _ _
  · rw [zs_i_o _ _ _ _ _ h2, zs_i_o _ _ _ _ _ h1]
  · rw [zs_i_n _ _ _ _ _ (by decide), zs_i_n _ _ _ _ _ (by decide)]
/-- one level in: at depth 6 refused, else over the bracket -/
theorem goesS (h : RT s b L N k m) (hk : k < N) {d : Nat} (hd : d ≤ 6) : (d = 6 → ∃ s', f_X8_goesIn (nI d) s = some (0, s') ∧ RB s s' b L (fkd b L k 4) k) ∧ (d < 6 → ∃ s', f_X8_goesIn (nI d) s = some (1, s') ∧ RS s s' b L N (k + 1) m []) := by
  refine ⟨fun e => ?_, fun e => ?_⟩
  · subst e
    obtain ⟨s', g1, g2⟩ := failsS h 4
    have hf := fkd_r (b := b) (L := L) (k := k) (v := 4) (by decide) (by decide)
    have hd := g2.dead hf.1 hf.2
    refine ⟨s', ?_, g2⟩
    rw [f_X8_goesIn, if_neg (fun z => z rfl), g1, zbd_some, f_X8_goesIn_11, if_pos hd, f_X8_goesIn_22, if_pos hd, f_X8_goesIn_34, if_pos (Or.inl rfl)]
  · obtain ⟨s', g1, g2⟩ := nextS h hk
    refine ⟨s', ?_, g2⟩
    rw [f_X8_goesIn, if_pos (ne_of_nI (by omega) (by omega) (by omega)), f_X8_goesIn_11, if_neg (fun z => z h.2.2.2.2.2.2.2.1), g1, zbd_some, f_X8_goesIn_22, if_neg (fun z => z g2.1.2.2.2.2.2.2.2.1), f_X8_goesIn_34, if_pos (Or.inr rfl)]
end STEPR
