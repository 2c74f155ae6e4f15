set_option maxRecDepth 40000 in
set_option maxHeartbeats 16000000 in
/-- the law from its entry, out of what its function says -/
theorem zz_start (hsem : ∀ (xs : Nat → Int32) (L : Nat), L ≤ 3072 → ∃ t : zS, f_L_law xs L zs_0 = some ((), t)) {p : Program} {e : Env} {s : State} {m : MethodId} {below : List Frame} {meth : Method} {c : Code} (l : Launch) {b L : Nat} {xs : Nat → Int32} (hL : L ≤ 3072) (C0 : lw_At p s m meth c b L xs) : W p l e room_1 s m #[Value.ref b] below meth c s.heap [] 0 0 (lw_Z below #[Value.ref b] s) (entryFrame m ([Value.ref b] : List Value).toArray 4) := by
  obtain ⟨hx, hb, hr, hml, hown, hts, hXs, hbl, hlocks, hgv⟩ := id C0
  have hT : ∀ w ∈ zw_T, w.before #[Value.ref b] s = true := fun w hw => hts w (List.mem_filter.mp hw).1
  obtain ⟨c0, i0, k0⟩ := u_known (C := RX0) (T := TX0) (N := 14) (n := 14) hT wcu_0 (hT _ win_0)
  obtain ⟨c1, i1, k1⟩ := u_known (C := RX1) (T := TX1) (N := 6) (n := 6) hT wcu_1 (hT _ win_1)
  obtain ⟨c2, i2, k2⟩ := u_known (C := RX2) (T := TX2) (N := 4) (n := 4) hT wcu_2 (hT _ win_2)
  obtain ⟨c3, i3, k3⟩ := u_known (C := RX3) (T := TX3) (N := 7) (n := 7) hT wcu_3 (hT _ win_3)
  obtain ⟨c4, i4, k4⟩ := u_known (C := RX4) (T := TX4) (N := 19) (n := 19) hT wcu_4 (hT _ win_4)
  obtain ⟨c5, i5, k5⟩ := u_known (C := RX5) (T := TX5) (N := 15) (n := 15) hT wcu_5 (hT _ win_5)
  obtain ⟨c6, i6, k6⟩ := u_known (C := RX6) (T := TX6) (N := 3) (n := 3) hT wcu_6 (hT _ win_6)
  obtain ⟨c7, i7, k7⟩ := u_known (C := RX7) (T := TX7) (N := 12) (n := 12) hT wcu_7 (hT _ win_7)
  obtain ⟨c8, i8, k8⟩ := u_known (C := RX8) (T := TX8) (N := 41) (n := 41) hT wcu_8 (hT _ win_8)
  obtain ⟨dC, dI, hKc⟩ : ∃ (dC : Nat → ClassId) (dI : Nat → Nat → Nat), ∀ (k : Nat) (q : vw_C), zs_cls[k]? = some q → u_Kn s q.1 q.2.1 q.2.2 (dC k) (dI k) := by
    refine ⟨fun k => if k = 0 then c0 else if k = 1 then c1 else if k = 2 then c2 else if k = 3 then c3 else if k = 4 then c4 else if k = 5 then c5 else if k = 6 then c6 else if k = 7 then c7 else c8, fun k => if k = 0 then i0 else if k = 1 then i1 else if k = 2 then i2 else if k = 3 then i3 else if k = 4 then i4 else if k = 5 then i5 else if k = 6 then i6 else if k = 7 then i7 else i8, ?_⟩
    intro k q hq
    match k, hq with
    | 0, hq => cases hq; exact k0
    | 1, hq => cases hq; exact k1
    | 2, hq => cases hq; exact k2
    | 3, hq => cases hq; exact k3
    | 4, hq => cases hq; exact k4
    | 5, hq => cases hq; exact k5
    | 6, hq => cases hq; exact k6
    | 7, hq => cases hq; exact k7
    | 8, hq => cases hq; exact k8
    | k + 9, hq => simp [zs_cls] at hq
  obtain ⟨cy0, ky0, co0, y01, y02, y03⟩ := Cond.arrayClass_spec (hT _ wac_int)
  obtain ⟨cy1, ky1, co1, y11, y12, y13⟩ := Cond.arrayClass_spec (hT _ wac_byte)
  obtain ⟨cy2, ky2, co2, y21, y22, y23⟩ := Cond.arrayClass_spec (hT _ wac_boolean)
  obtain ⟨cy3, ky3, co3, y31, y32, y33⟩ := Cond.arrayClass_spec (hT _ wac_long)
  obtain ⟨cy, hcy⟩ : ∃ cy : Nat → ClassId, cy 0 = cy0 ∧ cy 1 = cy1 ∧ cy 2 = cy2 ∧ cy 3 = cy3 := ⟨fun k => if k = 0 then cy0 else if k = 1 then cy1 else if k = 2 then cy2 else cy3, rfl, rfl, rfl, rfl⟩
  have hK : va_K (dC, dI) zs_cls (zs_tys cy) s := by
    refine ⟨hKc, fun k q hq => ?_⟩
    match k, hq with
    | 0, hq => cases hq; rw [hcy.1]; exact ⟨fun n z => ⟨fun k h => (by cases h), ky0, y02, co0, y03⟩, y01⟩
    | 1, hq => cases hq; rw [hcy.2.1]; exact ⟨fun n z => ⟨fun k h => (by cases h), ky1, y12, co1, y13⟩, y11⟩
    | 2, hq => cases hq; rw [hcy.2.2.1]; exact ⟨fun n z => ⟨fun k h => (by cases h), ky2, y22, co2, y23⟩, y21⟩
    | 3, hq => cases hq; rw [hcy.2.2.2]; exact ⟨fun n z => ⟨fun k h => (by cases h), ky3, y32, co3, y33⟩, y31⟩
    | k + 4, hq => simp [zs_tys] at hq
  obtain ⟨tv, hTv⟩ := zt_start (A := fun q => s.heap.size ≤ q) hts hgv (fun a ha => by omega)
  have hNs : zNw zn_ns s := by
    intro w hw
    simp only [zn_ns, List.mem_cons, List.not_mem_nil, or_false] at hw
    rcases hw with rfl | rfl
    · exact va_Nw.of rfl (hts _ (List.mem_of_getElem? (i := 241) (by decide +kernel)))
    · exact va_Nw.of rfl (hts _ (List.mem_of_getElem? (i := 391) (by decide +kernel)))
  obtain ⟨t, hsem⟩ := hsem xs L hL
  generalize hX0 : ((p, l, e, room_1, s, m, #[Value.ref b], below, meth, c, (dC, dI), (fun _ => 0), cy, tv, (fun q : Nat => s.heap.size ≤ q), 0, 0) : zX) = X
  have hX : zu_ok X code RLw 4 := by
    rw [← hX0]
    exact ⟨hx, hb, hown, hml, hT, hK, fun q h => h⟩
  have hR : zx_R X = room_1 := by rw [← hX0]
  have hNX : zNw zn_ns (zx_s X) := by rw [← hX0]; exact hNs
  have key : zU X (lw_Z below #[Value.ref b] s) 4 0 [(0, .ref b)] [] [] 0 0 := by
    refine zu_new (c := 7) (N := 12) (ty0 := tyX7) (fs := [.null, .int 0, .null, .null, .null, .null, .null, .null, .null, .null, .null, .null]) (wq := fun q => [] ++ [(q, .inr (7, [.null, .int 0, .null, .null, .null, .null, .null, .null, .null, .null, .null, .null]))]) hX rfl wcu_7 tyX7_ok wcl_Lw_7 win_7 wit_7 hfs_7 (by rw [hR]; exact Nat.le_of_ble_eq_true rfl) (by rw [hR]; exact Nat.le_of_ble_eq_true rfl) dL_law_0 (fun _ => rfl) (fun a0 => ?_)
    refine zu_dup hX dL_law_3 rfl ?_
    refine zu_callI (ns := zn_ns) (post := zp_X7 (zx_cy X) a0) (rest := [.ref a0]) [] hX hR zn_ns_ok hNX (k_X7 (zx_Y X) a0) wb_X7_init rfl wii_7 wmi_Lw_9 rfl ⟨rfl, rfl, Nat.le_of_ble_eq_true rfl, Nat.le_of_ble_eq_true rfl⟩ ⟨Nat.le_of_ble_eq_true rfl, Nat.le_of_ble_eq_true rfl⟩ rfl (Nat.le_of_ble_eq_true rfl) dL_law_4 (fun z0 => ?_)
    refine zu_astore_n (lv' := [(1, .ref a0), (0, .ref b)]) hX dL_law_7 (by decide) rfl ?_
    refine zu_new (c := 8) (N := 41) (ty0 := tyX8) (fs := [.int 0, .null, .null, .null, .null, .int 0, .int 0, .int 0, .int 0, .int 0, .int 0, .int 0, .int 0, .int 0, .int 0, .int 0, .null, .null, .null, .null, .int 0, .int 0, .null, .null, .null, .null, .null, .null, .int 0, .int 0, .null, .null, .int 0, .int 0, .null, .null, .null, .null, .null, .null, .null]) (wq := fun q => ([] ++ zp_X7 (zx_cy X) a0 z0) ++ [(q, .inr (8, [.int 0, .null, .null, .null, .null, .int 0, .int 0, .int 0, .int 0, .int 0, .int 0, .int 0, .int 0, .int 0, .int 0, .int 0, .null, .null, .null, .null, .int 0, .int 0, .null, .null, .null, .null, .null, .null, .int 0, .int 0, .null, .null, .int 0, .int 0, .null, .null, .null, .null, .null, .null, .null]))]) hX rfl wcu_8 tyX8_ok wcl_Lw_10 win_8 wit_8 hfs_8 (by rw [hR]; exact Nat.le_of_ble_eq_true rfl) (by rw [hR]; exact Nat.le_of_ble_eq_true rfl) dL_law_8 (fun _ => rfl) (fun a1 => ?_)
    refine zu_dup hX dL_law_11 rfl ?_
    refine zu_callI (ns := []) (post := zp_X8 (zx_cy X) a1) (rest := [.ref a1]) [] hX hR (fun _ h => by cases h) (fun _ h => by cases h) (k_X8 (zx_Y X) a1) wb_X8_init rfl wii_8 wmi_Lw_12 rfl ⟨rfl, rfl, Nat.le_of_ble_eq_true rfl, Nat.le_of_ble_eq_true rfl⟩ ⟨Nat.le_of_ble_eq_true rfl, Nat.le_of_ble_eq_true rfl⟩ rfl (Nat.le_of_ble_eq_true rfl) dL_law_12 (fun z1 => ?_)
    refine zu_astore_n (lv' := [(2, .ref a1), (1, .ref a0), (0, .ref b)]) hX dL_law_15 (by decide) rfl ?_
    intro H locs ls hl hw
    subst hX0
    obtain ⟨ad, had⟩ : ∃ ad : Nat → Nat, ad = fun k => [a0, (z0 0), (z0 1), (z0 2), (z0 3), (z0 4), (z0 5), (z0 6), (z0 7), (z0 8), (z0 9), (z0 10), (z0 57), (z0 58), (z0 59), (z0 60), (z0 61), (z0 62), (z0 63), (z0 64), (z0 65), (z0 66), (z0 67), (z0 68), (z0 69), (z0 70), (z0 71), (z0 72), (z0 73), (z0 74), (z0 11), (z0 12), (z0 13), (z0 14), (z0 15), (z0 16), (z0 17), (z0 18), (z0 19), (z0 20), (z0 21), (z0 22), (z0 23), (z0 24), (z0 25), (z0 26), (z0 27), (z0 28), (z0 29), (z0 30), (z0 31), (z0 32), (z0 33), (z0 34), (z0 35), (z0 36), (z0 37), (z0 38), (z0 39), (z0 40), (z0 41), (z0 42), (z0 43), (z0 44), (z0 45), (z0 46), (z0 47), (z0 48), (z0 49), (z0 50), (z0 51), (z0 52), (z0 53), (z0 54), (z0 55), (z0 56), a1, (z1 0), (z1 1), (z1 2), (z1 3), (z1 4), (z1 5), (z1 6), (z1 7), (z1 8), (z1 9), (z1 10), (z1 11), (z1 12), (z1 13), (z1 14), (z1 15), (z1 16), (z1 17), (z1 18), (z1 19), (z1 20), (z1 21), (z1 22)].getD k 0 := ⟨_, rfl⟩
    have hl2 : lv_has ls 4 [(0, .ref b), (1, .ref (ad 0)), (2, .ref (ad 76))] := by
      rw [had]
      exact lv_sub hl [2, 1, 0] rfl
    have hP : va_P (dC, dI) zs_cls (zk_w cy ad zs_0) H := by
      rw [zk_w0, had]
      exact hw.1.sub [0, 1, 2, 3, 4, 5, 6, 7, 8, 9, 10, 11, 58, 59, 60, 61, 62, 63, 64, 65, 66, 67, 68, 69, 70, 71, 72, 73, 74, 75, 12, 13, 14, 15, 16, 17, 18, 19, 20, 21, 22, 23, 24, 25, 26, 27, 28, 29, 30, 31, 32, 33, 34, 35, 36, 37, 38, 39, 40, 41, 42, 43, 44, 45, 46, 47, 48, 49, 50, 51, 52, 53, 54, 55, 56, 57, 76, 77, 78, 79, 80, 81, 82, 83, 84, 85, 86, 87, 88, 89, 90, 91, 92, 93, 94, 95, 96, 97, 98, 99] rfl
    have hD : va_D (fun q : Nat => s.heap.size ≤ q) (zk_w cy ad zs_0) := by
      rw [zk_w0, had]
      exact hw.2.1.sub [0, 1, 2, 3, 4, 5, 6, 7, 8, 9, 10, 11, 58, 59, 60, 61, 62, 63, 64, 65, 66, 67, 68, 69, 70, 71, 72, 73, 74, 75, 12, 13, 14, 15, 16, 17, 18, 19, 20, 21, 22, 23, 24, 25, 26, 27, 28, 29, 30, 31, 32, 33, 34, 35, 36, 37, 38, 39, 40, 41, 42, 43, 44, 45, 46, 47, 48, 49, 50, 51, 52, 53, 54, 55, 56, 57, 76, 77, 78, 79, 80, 81, 82, 83, 84, 85, 86, 87, 88, 89, 90, 91, 92, 93, 94, 95, 96, 97, 98, 99] (by decide) rfl
    have V := b_L_law (X := (p, l, e, room_1, s, m, #[Value.ref b], below, meth, c, (dC, dI), ad, cy, tv, (fun q : Nat => s.heap.size ≤ q), 100, 19168)) (b := b) (L := L) (xs := xs) ⟨hx, hb, hown, hml, hT, hK, hTv, fun q h => h, Nat.le_of_ble_eq_true rfl, Nat.le_of_ble_eq_true rfl⟩ ⟨rfl, hXs, hbl, Nat.not_le.mpr hbl, hr, hlocks, rfl, Nat.le_of_ble_eq_true rfl, Nat.le_of_ble_eq_true rfl, fun q h => h⟩ zs_0 ((), t) hsem H locs ls hl2 ⟨hP, hD, hw.2.2⟩
    exact V
  have hl := lv_entry ([.ref b]) (n := 4) (Nat.le_of_ble_eq_true rfl)
  have K := key s.heap [] _ hl ⟨fun k q h => by simp at h, ⟨fun i j p q h => by simp at h, fun k q h => by simp at h⟩, by rw [← hX0]; exact va_S.rf⟩
  rw [lg_entry_eq]
  subst hX0
  exact K

