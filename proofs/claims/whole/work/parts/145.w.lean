theorem dX8_readAtom_0 : decode cX8_readAtom 0 = .ok (.aload_n 0, 1) := by decide +kernel
theorem dX8_readAtom_1 : decode cX8_readAtom 1 = .ok (.bipush 23, 2) := by decide +kernel
theorem dX8_readAtom_3 : decode cX8_readAtom 3 = .ok (.invokevirtual 144, 3) := by decide +kernel
theorem dX8_readAtom_6 : decode cX8_readAtom 6 = .ok (.ifCond .eq 18, 3) := by decide +kernel
theorem dX8_readAtom_9 : decode cX8_readAtom 9 = .ok (.aload_n 0, 1) := by decide +kernel
theorem dX8_readAtom_10 : decode cX8_readAtom 10 = .ok (.aload_n 0, 1) := by decide +kernel
theorem dX8_readAtom_11 : decode cX8_readAtom 11 = .ok (.getfield 133, 3) := by decide +kernel
theorem dX8_readAtom_14 : decode cX8_readAtom 14 = .ok (.invokevirtual 161, 3) := by decide +kernel
theorem dX8_readAtom_17 : decode cX8_readAtom 17 = .ok (.aload_n 0, 1) := by decide +kernel
theorem dX8_readAtom_18 : decode cX8_readAtom 18 = .ok (.invokevirtual 147, 3) := by decide +kernel
theorem dX8_readAtom_21 : decode cX8_readAtom 21 = .ok (.goto 92, 3) := by decide +kernel
theorem dX8_readAtom_24 : decode cX8_readAtom 24 = .ok (.aload_n 0, 1) := by decide +kernel
theorem dX8_readAtom_25 : decode cX8_readAtom 25 = .ok (.getfield 138, 3) := by decide +kernel
theorem dX8_readAtom_28 : decode cX8_readAtom 28 = .ok (.ifCond .ne 38, 3) := by decide +kernel
theorem dX8_readAtom_31 : decode cX8_readAtom 31 = .ok (.aload_n 0, 1) := by decide +kernel
theorem dX8_readAtom_32 : decode cX8_readAtom 32 = .ok (.aload_n 0, 1) := by decide +kernel
theorem dX8_readAtom_33 : decode cX8_readAtom 33 = .ok (.getfield 120, 3) := by decide +kernel
theorem dX8_readAtom_36 : decode cX8_readAtom 36 = .ok (.invokevirtual 164, 3) := by decide +kernel
theorem dX8_readAtom_39 : decode cX8_readAtom 39 = .ok (.iconst (-1), 1) := by decide +kernel
theorem dX8_readAtom_40 : decode cX8_readAtom 40 = .ok (.if_icmp .eq 26, 3) := by decide +kernel
theorem dX8_readAtom_43 : decode cX8_readAtom 43 = .ok (.aload_n 0, 1) := by decide +kernel
theorem dX8_readAtom_44 : decode cX8_readAtom 44 = .ok (.sipush 1000, 3) := by decide +kernel
theorem dX8_readAtom_47 : decode cX8_readAtom 47 = .ok (.aload_n 0, 1) := by decide +kernel
theorem dX8_readAtom_48 : decode cX8_readAtom 48 = .ok (.aload_n 0, 1) := by decide +kernel
theorem dX8_readAtom_49 : decode cX8_readAtom 49 = .ok (.getfield 120, 3) := by decide +kernel
theorem dX8_readAtom_52 : decode cX8_readAtom 52 = .ok (.invokevirtual 164, 3) := by decide +kernel
theorem dX8_readAtom_55 : decode cX8_readAtom 55 = .ok (.iadd, 1) := by decide +kernel
theorem dX8_readAtom_56 : decode cX8_readAtom 56 = .ok (.invokevirtual 161, 3) := by decide +kernel
theorem dX8_readAtom_59 : decode cX8_readAtom 59 = .ok (.aload_n 0, 1) := by decide +kernel
theorem dX8_readAtom_60 : decode cX8_readAtom 60 = .ok (.invokevirtual 147, 3) := by decide +kernel
theorem dX8_readAtom_63 : decode cX8_readAtom 63 = .ok (.goto 50, 3) := by decide +kernel
theorem dX8_readAtom_66 : decode cX8_readAtom 66 = .ok (.aload_n 0, 1) := by decide +kernel
theorem dX8_readAtom_67 : decode cX8_readAtom 67 = .ok (.bipush 35, 2) := by decide +kernel
theorem dX8_readAtom_69 : decode cX8_readAtom 69 = .ok (.invokevirtual 144, 3) := by decide +kernel
theorem dX8_readAtom_72 : decode cX8_readAtom 72 = .ok (.ifCond .eq 36, 3) := by decide +kernel
theorem dX8_readAtom_75 : decode cX8_readAtom 75 = .ok (.aload_n 0, 1) := by decide +kernel
theorem dX8_readAtom_76 : decode cX8_readAtom 76 = .ok (.iload_n 1, 1) := by decide +kernel
theorem dX8_readAtom_77 : decode cX8_readAtom 77 = .ok (.invokevirtual 167, 3) := by decide +kernel
theorem dX8_readAtom_80 : decode cX8_readAtom 80 = .ok (.ifCond .ne 4, 3) := by decide +kernel
theorem dX8_readAtom_83 : decode cX8_readAtom 83 = .ok (.return_, 1) := by decide +kernel
theorem dX8_readAtom_84 : decode cX8_readAtom 84 = .ok (.aload_n 0, 1) := by decide +kernel
theorem dX8_readAtom_85 : decode cX8_readAtom 85 = .ok (.iload_n 1, 1) := by decide +kernel
theorem dX8_readAtom_86 : decode cX8_readAtom 86 = .ok (.iconst 1, 1) := by decide +kernel
theorem dX8_readAtom_87 : decode cX8_readAtom 87 = .ok (.iadd, 1) := by decide +kernel
theorem dX8_readAtom_88 : decode cX8_readAtom 88 = .ok (.invokevirtual 170, 3) := by decide +kernel
theorem dX8_readAtom_91 : decode cX8_readAtom 91 = .ok (.aload_n 0, 1) := by decide +kernel
theorem dX8_readAtom_92 : decode cX8_readAtom 92 = .ok (.bipush 36, 2) := by decide +kernel
theorem dX8_readAtom_94 : decode cX8_readAtom 94 = .ok (.invokevirtual 173, 3) := by decide +kernel
theorem dX8_readAtom_97 : decode cX8_readAtom 97 = .ok (.ifCond .ne 16, 3) := by decide +kernel
theorem dX8_readAtom_100 : decode cX8_readAtom 100 = .ok (.aload_n 0, 1) := by decide +kernel
theorem dX8_readAtom_101 : decode cX8_readAtom 101 = .ok (.iconst 2, 1) := by decide +kernel
theorem dX8_readAtom_102 : decode cX8_readAtom 102 = .ok (.invokevirtual 150, 3) := by decide +kernel
theorem dX8_readAtom_105 : decode cX8_readAtom 105 = .ok (.goto 8, 3) := by decide +kernel
theorem dX8_readAtom_108 : decode cX8_readAtom 108 = .ok (.aload_n 0, 1) := by decide +kernel
theorem dX8_readAtom_109 : decode cX8_readAtom 109 = .ok (.iconst 2, 1) := by decide +kernel
theorem dX8_readAtom_110 : decode cX8_readAtom 110 = .ok (.invokevirtual 150, 3) := by decide +kernel
theorem dX8_readAtom_113 : decode cX8_readAtom 113 = .ok (.return_, 1) := by decide +kernel
theorem dX8_readSum_0 : decode cX8_readSum 0 = .ok (.aload_n 0, 1) := by decide +kernel
theorem dX8_readSum_1 : decode cX8_readSum 1 = .ok (.iload_n 1, 1) := by decide +kernel
theorem dX8_readSum_2 : decode cX8_readSum 2 = .ok (.invokevirtual 179, 3) := by decide +kernel
theorem dX8_readSum_5 : decode cX8_readSum 5 = .ok (.aload_n 0, 1) := by decide +kernel
theorem dX8_readSum_6 : decode cX8_readSum 6 = .ok (.bipush 32, 2) := by decide +kernel
theorem dX8_readSum_8 : decode cX8_readSum 8 = .ok (.invokevirtual 144, 3) := by decide +kernel
theorem dX8_readSum_11 : decode cX8_readSum 11 = .ok (.ifCond .ne 12, 3) := by decide +kernel
theorem dX8_readSum_14 : decode cX8_readSum 14 = .ok (.aload_n 0, 1) := by decide +kernel
theorem dX8_readSum_15 : decode cX8_readSum 15 = .ok (.bipush 33, 2) := by decide +kernel
theorem dX8_readSum_17 : decode cX8_readSum 17 = .ok (.invokevirtual 144, 3) := by decide +kernel
theorem dX8_readSum_20 : decode cX8_readSum 20 = .ok (.ifCond .eq 39, 3) := by decide +kernel
theorem dX8_readSum_23 : decode cX8_readSum 23 = .ok (.aload_n 0, 1) := by decide +kernel
theorem dX8_readSum_24 : decode cX8_readSum 24 = .ok (.getfield 120, 3) := by decide +kernel
theorem dX8_readSum_27 : decode cX8_readSum 27 = .ok (.bipush 32, 2) := by decide +kernel
theorem dX8_readSum_29 : decode cX8_readSum 29 = .ok (.if_icmp .ne 9, 3) := by decide +kernel
theorem dX8_readSum_32 : decode cX8_readSum 32 = .ok (.sipush 3000, 3) := by decide +kernel
theorem dX8_readSum_35 : decode cX8_readSum 35 = .ok (.goto 6, 3) := by decide +kernel
theorem dX8_readSum_38 : decode cX8_readSum 38 = .ok (.sipush 3001, 3) := by decide +kernel
theorem dX8_readSum_41 : decode cX8_readSum 41 = .ok (.istore_n 2, 1) := by decide +kernel
theorem dX8_readSum_42 : decode cX8_readSum 42 = .ok (.aload_n 0, 1) := by decide +kernel
theorem dX8_readSum_43 : decode cX8_readSum 43 = .ok (.invokevirtual 147, 3) := by decide +kernel
theorem dX8_readSum_46 : decode cX8_readSum 46 = .ok (.aload_n 0, 1) := by decide +kernel
theorem dX8_readSum_47 : decode cX8_readSum 47 = .ok (.iload_n 1, 1) := by decide +kernel
theorem dX8_readSum_48 : decode cX8_readSum 48 = .ok (.invokevirtual 179, 3) := by decide +kernel
theorem dX8_readSum_51 : decode cX8_readSum 51 = .ok (.aload_n 0, 1) := by decide +kernel
theorem dX8_readSum_52 : decode cX8_readSum 52 = .ok (.iload_n 2, 1) := by decide +kernel
theorem dX8_readSum_53 : decode cX8_readSum 53 = .ok (.invokevirtual 161, 3) := by decide +kernel
theorem dX8_readSum_56 : decode cX8_readSum 56 = .ok (.goto (-51), 3) := by decide +kernel
theorem dX8_readSum_59 : decode cX8_readSum 59 = .ok (.return_, 1) := by decide +kernel
theorem dX8_readTerm_0 : decode cX8_readTerm 0 = .ok (.aload_n 0, 1) := by decide +kernel
theorem dX8_readTerm_1 : decode cX8_readTerm 1 = .ok (.iload_n 1, 1) := by decide +kernel
theorem dX8_readTerm_2 : decode cX8_readTerm 2 = .ok (.invokevirtual 176, 3) := by decide +kernel
theorem dX8_readTerm_5 : decode cX8_readTerm 5 = .ok (.aload_n 0, 1) := by decide +kernel
theorem dX8_readTerm_6 : decode cX8_readTerm 6 = .ok (.bipush 34, 2) := by decide +kernel
theorem dX8_readTerm_8 : decode cX8_readTerm 8 = .ok (.invokevirtual 173, 3) := by decide +kernel
theorem dX8_readTerm_11 : decode cX8_readTerm 11 = .ok (.ifCond .eq 18, 3) := by decide +kernel
theorem dX8_readTerm_14 : decode cX8_readTerm 14 = .ok (.aload_n 0, 1) := by decide +kernel
theorem dX8_readTerm_15 : decode cX8_readTerm 15 = .ok (.iload_n 1, 1) := by decide +kernel
theorem dX8_readTerm_16 : decode cX8_readTerm 16 = .ok (.invokevirtual 176, 3) := by decide +kernel
theorem dX8_readTerm_19 : decode cX8_readTerm 19 = .ok (.aload_n 0, 1) := by decide +kernel
theorem dX8_readTerm_20 : decode cX8_readTerm 20 = .ok (.sipush 3002, 3) := by decide +kernel
theorem dX8_readTerm_23 : decode cX8_readTerm 23 = .ok (.invokevirtual 161, 3) := by decide +kernel
theorem dX8_readTerm_26 : decode cX8_readTerm 26 = .ok (.goto (-21), 3) := by decide +kernel
theorem dX8_readTerm_29 : decode cX8_readTerm 29 = .ok (.return_, 1) := by decide +kernel
def f_X8_readAtom_113 (q_X8_readSum : Int32 → zS → Option (Unit × zS))  (s : zS) : Option (Unit × zS) :=
  some ((), s)
set_option maxRecDepth 20000 in
theorem b_X8_readAtom_113 {X : zX} {dd : Nat} {q_X8_readSum : Int32 → zS → Option (Unit × zS)} (hX : zx_ok X cX8_readAtom RX8 2) (hT : zx_rt X none (zR (7 + dd + 1) (150 + (dd + 1) * 22))) (hq_X8_readSum : ∀ (v1 : Int32) (s : zS), zM (zx_Y X) yX8_readSum cX8_readSum 3 none (zR (7 + dd) (150 + dd * 22)) [.ref (zx_ad X 76), .int v1] s zrV (q_X8_readSum v1 s)) : ∀  (s : zS), zV X (zq X zrV) 2 113 [] [] s (f_X8_readAtom_113 q_X8_readSum  s) := by
  have hDP : zDP = 64 := rfl
  intro  s
  unfold f_X8_readAtom_113
  exact zv_vret hX hT dX8_readAtom_113
def f_X8_readAtom_66 (q_X8_readSum : Int32 → zS → Option (Unit × zS)) (v1 : Int32) (s : zS) : Option (Unit × zS) :=
  zbd (f_X8_is (nI 35) s) fun r1 s2 =>
  if r1 = 0 then
  (zbd (f_X8_fails (nI 2) s2) fun _ s3 =>
  f_X8_readAtom_113 q_X8_readSum s3)
  else
  zbd (f_X8_goesIn v1 s2) fun r4 s5 =>
  if ¬ r4 = 0 then
  (zbd (q_X8_readSum (v1 + (1 : Int32)) s5) fun _ s6 =>
  zbd (f_X8_eats (nI 36) s6) fun r7 s8 =>
  if ¬ r7 = 0 then
  (f_X8_readAtom_113 q_X8_readSum s8)
  else
  zbd (f_X8_fails (nI 2) s8) fun _ s9 =>
  f_X8_readAtom_113 q_X8_readSum s9)
  else
  some ((), s5)
set_option maxRecDepth 20000 in
theorem b_X8_readAtom_66 {X : zX} {dd : Nat} {q_X8_readSum : Int32 → zS → Option (Unit × zS)} (hX : zx_ok X cX8_readAtom RX8 2) (hT : zx_rt X none (zR (7 + dd + 1) (150 + (dd + 1) * 22))) (hq_X8_readSum : ∀ (v1 : Int32) (s : zS), zM (zx_Y X) yX8_readSum cX8_readSum 3 none (zR (7 + dd) (150 + dd * 22)) [.ref (zx_ad X 76), .int v1] s zrV (q_X8_readSum v1 s)) : ∀ (v1 : Int32) (s : zS), zV X (zq X zrV) 2 66 [(0, .ref (zx_ad X 76)), (1, .int v1)] [] s (f_X8_readAtom_66 q_X8_readSum v1 s) := by
  have hDP : zDP = 64 := rfl
  intro v1 s
  unfold f_X8_readAtom_66
  refine zv_aload_n hX dX8_readAtom_66 0 rfl ?_
  refine zv_bipush (v := (nI 35)) hX dX8_readAtom_67 zi_b_35 ?_
  refine zv_cVI [.int (nI 35)] (rest := []) hX hT.2.2.2.2 (c_X8_is (zx_Y X) (nI 35) s) wv_X8_is c9_8 zd_76 wm_X8_144 rfl (by omega) (by omega) rfl (Nat.le_of_ble_eq_true rfl) dX8_readAtom_69 (fun r1 s2 => ?_)
  refine zv_if_eq (tgt := 108) hX dX8_readAtom_72 rfl ?_ ?_
  · refine zv_aload_n hX dX8_readAtom_108 0 rfl ?_
    refine zv_iconst (v := (nI 2)) hX dX8_readAtom_109 zi_i_2 ?_
    refine zv_cVV [.int (nI 2)] (rest := []) hX hT.2.2.2.2 (c_X8_fails (zx_Y X) (nI 2) s2) wv_X8_fails c9_8 zd_76 wm_X8_150 rfl (by omega) (by omega) rfl (Nat.le_of_ble_eq_true rfl) dX8_readAtom_110 (fun _ s3 => ?_)
    exact zv_sub [] rfl (b_X8_readAtom_113 hX hT hq_X8_readSum  s3)
  · refine zv_aload_n hX dX8_readAtom_75 0 rfl ?_
    refine zv_iload_n hX dX8_readAtom_76 1 rfl ?_
    refine zv_cVI [.int v1] (rest := []) hX hT.2.2.2.2 (c_X8_goesIn (zx_Y X) v1 s2) wv_X8_goesIn c9_8 zd_76 wm_X8_167 rfl (by omega) (by omega) rfl (Nat.le_of_ble_eq_true rfl) dX8_readAtom_77 (fun r4 s5 => ?_)
    refine zv_if_ne (tgt := 84) hX dX8_readAtom_80 rfl ?_ ?_
    · refine zv_aload_n hX dX8_readAtom_84 0 rfl ?_
      refine zv_iload_n hX dX8_readAtom_85 1 rfl ?_
      refine zv_iconst (v := (1 : Int32)) hX dX8_readAtom_86 zi_i_1 ?_
      refine zv_iadd hX dX8_readAtom_87 ?_
      refine zv_cVV [.int (v1 + (1 : Int32))] (rest := []) hX hT.2.2.2.2 (hq_X8_readSum (v1 + (1 : Int32)) s5) wv_X8_readSum c9_8 zd_76 wm_X8_170 rfl (by omega) (by omega) rfl (Nat.le_of_ble_eq_true rfl) dX8_readAtom_88 (fun _ s6 => ?_)
      refine zv_aload_n hX dX8_readAtom_91 0 rfl ?_
      refine zv_bipush (v := (nI 36)) hX dX8_readAtom_92 zi_b_36 ?_
      refine zv_cVI [.int (nI 36)] (rest := []) hX hT.2.2.2.2 (c_X8_eats (zx_Y X) (nI 36) s6) wv_X8_eats c9_8 zd_76 wm_X8_173 rfl (by omega) (by omega) rfl (Nat.le_of_ble_eq_true rfl) dX8_readAtom_94 (fun r7 s8 => ?_)
      refine zv_if_ne (tgt := 113) hX dX8_readAtom_97 rfl ?_ ?_
      · exact zv_sub [] rfl (b_X8_readAtom_113 hX hT hq_X8_readSum  s8)
      · refine zv_aload_n hX dX8_readAtom_100 0 rfl ?_
        refine zv_iconst (v := (nI 2)) hX dX8_readAtom_101 zi_i_2 ?_
        refine zv_cVV [.int (nI 2)] (rest := []) hX hT.2.2.2.2 (c_X8_fails (zx_Y X) (nI 2) s8) wv_X8_fails c9_8 zd_76 wm_X8_150 rfl (by omega) (by omega) rfl (Nat.le_of_ble_eq_true rfl) dX8_readAtom_102 (fun _ s9 => ?_)
        refine zv_goto (tgt := 113) hX dX8_readAtom_105 rfl ?_
        exact zv_sub [] rfl (b_X8_readAtom_113 hX hT hq_X8_readSum  s9)
    · exact zv_vret hX hT dX8_readAtom_83
def g_X8_readAtom (q_X8_readSum : Int32 → zS → Option (Unit × zS)) (v1 : Int32) (s : zS) : Option (Unit × zS) :=
  zbd (f_X8_is (nI 23) s) fun r10 s11 =>
  if r10 = 0 then
  (if ¬ (s11.1 76 11) = 0 then
  (f_X8_readAtom_66 q_X8_readSum v1 s11)
  else
  zbd (f_X8_wordOf (s11.1 76 9) s11) fun r12 s13 =>
  if r12 = (-1 : Int32) then
  (f_X8_readAtom_66 q_X8_readSum v1 s13)
  else
  zbd (f_X8_wordOf (s13.1 76 9) s13) fun r14 s15 =>
  zbd (f_X8_codes ((nI 1000) + r14) s15) fun _ s16 =>
  zbd (f_X8_next s16) fun _ s17 =>
  f_X8_readAtom_113 q_X8_readSum s17)
  else
  zbd (f_X8_codes (s11.1 76 10) s11) fun _ s18 =>
  zbd (f_X8_next s18) fun _ s19 =>
  f_X8_readAtom_113 q_X8_readSum s19
set_option maxRecDepth 20000 in
theorem e_X8_readAtom {X : zX} {dd : Nat} {q_X8_readSum : Int32 → zS → Option (Unit × zS)} (hX : zx_ok X cX8_readAtom RX8 2) (hT : zx_rt X none (zR (7 + dd + 1) (150 + (dd + 1) * 22))) (hq_X8_readSum : ∀ (v1 : Int32) (s : zS), zM (zx_Y X) yX8_readSum cX8_readSum 3 none (zR (7 + dd) (150 + dd * 22)) [.ref (zx_ad X 76), .int v1] s zrV (q_X8_readSum v1 s)) : ∀ (v1 : Int32) (s : zS), zV X (zq X zrV) 2 0 [(0, .ref (zx_ad X 76)), (1, .int v1)] [] s (g_X8_readAtom q_X8_readSum v1 s) := by
  have hDP : zDP = 64 := rfl
  intro v1 s
  unfold g_X8_readAtom
  refine zv_aload_n hX dX8_readAtom_0 0 rfl ?_
  refine zv_bipush (v := (nI 23)) hX dX8_readAtom_1 zi_b_23 ?_
  refine zv_cVI [.int (nI 23)] (rest := []) hX hT.2.2.2.2 (c_X8_is (zx_Y X) (nI 23) s) wv_X8_is c9_8 zd_76 wm_X8_144 rfl (by omega) (by omega) rfl (Nat.le_of_ble_eq_true rfl) dX8_readAtom_3 (fun r10 s11 => ?_)
  refine zv_if_eq (tgt := 24) hX dX8_readAtom_6 rfl ?_ ?_
  · refine zv_aload_n hX dX8_readAtom_24 0 rfl ?_
    refine zv_geti hX wf_X8_138 wc_8 zd_76 zj_76_11 c9_8 zr_76_11 dX8_readAtom_25 ?_
    refine zv_if_ne (tgt := 66) hX dX8_readAtom_28 rfl ?_ ?_
    · exact b_X8_readAtom_66 hX hT hq_X8_readSum v1 s11
    · refine zv_aload_n hX dX8_readAtom_31 0 rfl ?_
      refine zv_aload_n hX dX8_readAtom_32 0 rfl ?_
      refine zv_geti hX wf_X8_120 wc_8 zd_76 zj_76_9 c9_8 zr_76_9 dX8_readAtom_33 ?_
      refine zv_cVI [.int (s11.1 76 9)] (rest := []) hX hT.2.2.2.2 (c_X8_wordOf (zx_Y X) (s11.1 76 9) s11) wv_X8_wordOf c9_8 zd_76 wm_X8_164 rfl (by omega) (by omega) rfl (Nat.le_of_ble_eq_true rfl) dX8_readAtom_36 (fun r12 s13 => ?_)
      refine zv_iconst (v := (-1 : Int32)) hX dX8_readAtom_39 zi_i_m1 ?_
      refine zv_icmp_eq (tgt := 66) hX dX8_readAtom_40 rfl ?_ ?_
      · exact b_X8_readAtom_66 hX hT hq_X8_readSum v1 s13
      · refine zv_aload_n hX dX8_readAtom_43 0 rfl ?_
        refine zv_sipush (v := (nI 1000)) hX dX8_readAtom_44 zi_s_1000 ?_
        refine zv_aload_n hX dX8_readAtom_47 0 rfl ?_
        refine zv_aload_n hX dX8_readAtom_48 0 rfl ?_
        refine zv_geti hX wf_X8_120 wc_8 zd_76 zj_76_9 c9_8 zr_76_9 dX8_readAtom_49 ?_
        refine zv_cVI [.int (s13.1 76 9)] (rest := [.int (nI 1000), .ref (zx_ad X 76)]) hX hT.2.2.2.2 (c_X8_wordOf (zx_Y X) (s13.1 76 9) s13) wv_X8_wordOf c9_8 zd_76 wm_X8_164 rfl (by omega) (by omega) rfl (Nat.le_of_ble_eq_true rfl) dX8_readAtom_52 (fun r14 s15 => ?_)
        refine zv_iadd hX dX8_readAtom_55 ?_
        refine zv_cVV [.int ((nI 1000) + r14)] (rest := []) hX hT.2.2.2.2 (c_X8_codes (zx_Y X) ((nI 1000) + r14) s15) wv_X8_codes c9_8 zd_76 wm_X8_161 rfl (by omega) (by omega) rfl (Nat.le_of_ble_eq_true rfl) dX8_readAtom_56 (fun _ s16 => ?_)
        refine zv_aload_n hX dX8_readAtom_59 0 rfl ?_
        refine zv_cVV [] (rest := []) hX hT.2.2.2.2 (c_X8_next (zx_Y X) s16) wv_X8_next c9_8 zd_76 wm_X8_147 rfl (by omega) (by omega) rfl (Nat.le_of_ble_eq_true rfl) dX8_readAtom_60 (fun _ s17 => ?_)
        refine zv_goto (tgt := 113) hX dX8_readAtom_63 rfl ?_
        exact zv_sub [] rfl (b_X8_readAtom_113 hX hT hq_X8_readSum  s17)
  · refine zv_aload_n hX dX8_readAtom_9 0 rfl ?_
    refine zv_aload_n hX dX8_readAtom_10 0 rfl ?_
    refine zv_geti hX wf_X8_133 wc_8 zd_76 zj_76_10 c9_8 zr_76_10 dX8_readAtom_11 ?_
    refine zv_cVV [.int (s11.1 76 10)] (rest := []) hX hT.2.2.2.2 (c_X8_codes (zx_Y X) (s11.1 76 10) s11) wv_X8_codes c9_8 zd_76 wm_X8_161 rfl (by omega) (by omega) rfl (Nat.le_of_ble_eq_true rfl) dX8_readAtom_14 (fun _ s18 => ?_)
    refine zv_aload_n hX dX8_readAtom_17 0 rfl ?_
    refine zv_cVV [] (rest := []) hX hT.2.2.2.2 (c_X8_next (zx_Y X) s18) wv_X8_next c9_8 zd_76 wm_X8_147 rfl (by omega) (by omega) rfl (Nat.le_of_ble_eq_true rfl) dX8_readAtom_18 (fun _ s19 => ?_)
    refine zv_goto (tgt := 113) hX dX8_readAtom_21 rfl ?_
    exact zv_sub [] rfl (b_X8_readAtom_113 hX hT hq_X8_readSum  s19)
def f_X8_readSum_41 (q_X8_readTerm : Int32 → zS → Option (Unit × zS)) (kb_5 : Int32 → zS → Option (Unit × zS)) (v1 : Int32) (w0 : Int32) (s : zS) : Option (Unit × zS) :=
  zbd (f_X8_next s) fun _ s1 =>
  zbd (q_X8_readTerm v1 s1) fun _ s2 =>
  zbd (f_X8_codes w0 s2) fun _ s3 =>
  kb_5 v1 s3
set_option maxRecDepth 20000 in
theorem b_X8_readSum_41 {X : zX} {dd : Nat} {q_X8_readTerm : Int32 → zS → Option (Unit × zS)} {kb_5 : Int32 → zS → Option (Unit × zS)} (hX : zx_ok X cX8_readSum RX8 3) (hT : zx_rt X none (zR (7 + dd + 1) (150 + (dd + 1) * 22))) (hq_X8_readTerm : ∀ (v1 : Int32) (s : zS), zM (zx_Y X) yX8_readTerm cX8_readTerm 2 none (zR (7 + dd) (150 + dd * 22)) [.ref (zx_ad X 76), .int v1] s zrV (q_X8_readTerm v1 s)) (hk_5 : ∀ (v1 : Int32) (s : zS), zV X (zq X zrV) 3 5 [(0, .ref (zx_ad X 76)), (1, .int v1)] [] s (kb_5 v1 s)) : ∀ (v1 : Int32) (w0 : Int32) (s : zS), zV X (zq X zrV) 3 41 [(0, .ref (zx_ad X 76)), (1, .int v1)] [.int w0] s (f_X8_readSum_41 q_X8_readTerm kb_5 v1 w0 s) := by
  have hDP : zDP = 64 := rfl
  intro v1 w0 s
  unfold f_X8_readSum_41
  refine zv_istore_n (lv' := [(2, .int w0), (0, .ref (zx_ad X 76)), (1, .int v1)]) hX dX8_readSum_41 (by decide) rfl ?_
  refine zv_aload_n hX dX8_readSum_42 1 rfl ?_
  refine zv_cVV [] (rest := []) hX hT.2.2.2.2 (c_X8_next (zx_Y X) s) wv_X8_next c9_8 zd_76 wm_X8_147 rfl (by omega) (by omega) rfl (Nat.le_of_ble_eq_true rfl) dX8_readSum_43 (fun _ s1 => ?_)
  refine zv_aload_n hX dX8_readSum_46 1 rfl ?_
  refine zv_iload_n hX dX8_readSum_47 2 rfl ?_
  refine zv_cVV [.int v1] (rest := []) hX hT.2.2.2.2 (hq_X8_readTerm v1 s1) wv_X8_readTerm c9_8 zd_76 wm_X8_179 rfl (by omega) (by omega) rfl (Nat.le_of_ble_eq_true rfl) dX8_readSum_48 (fun _ s2 => ?_)
  refine zv_aload_n hX dX8_readSum_51 1 rfl ?_
  refine zv_iload_n hX dX8_readSum_52 0 rfl ?_
  refine zv_cVV [.int w0] (rest := []) hX hT.2.2.2.2 (c_X8_codes (zx_Y X) w0 s2) wv_X8_codes c9_8 zd_76 wm_X8_161 rfl (by omega) (by omega) rfl (Nat.le_of_ble_eq_true rfl) dX8_readSum_53 (fun _ s3 => ?_)
  refine zv_goto (tgt := 5) hX dX8_readSum_56 rfl ?_
  exact zv_sub [1, 2] rfl (hk_5 v1 s3)
def f_X8_readSum_23 (q_X8_readTerm : Int32 → zS → Option (Unit × zS)) (kb_5 : Int32 → zS → Option (Unit × zS)) (v1 : Int32) (s : zS) : Option (Unit × zS) :=
  if ¬ (s.1 76 9) = (nI 32) then
  (f_X8_readSum_41 q_X8_readTerm kb_5 v1 (nI 3001) s)
  else
  f_X8_readSum_41 q_X8_readTerm kb_5 v1 (nI 3000) s
set_option maxRecDepth 20000 in
theorem b_X8_readSum_23 {X : zX} {dd : Nat} {q_X8_readTerm : Int32 → zS → Option (Unit × zS)} {kb_5 : Int32 → zS → Option (Unit × zS)} (hX : zx_ok X cX8_readSum RX8 3) (hT : zx_rt X none (zR (7 + dd + 1) (150 + (dd + 1) * 22))) (hq_X8_readTerm : ∀ (v1 : Int32) (s : zS), zM (zx_Y X) yX8_readTerm cX8_readTerm 2 none (zR (7 + dd) (150 + dd * 22)) [.ref (zx_ad X 76), .int v1] s zrV (q_X8_readTerm v1 s)) (hk_5 : ∀ (v1 : Int32) (s : zS), zV X (zq X zrV) 3 5 [(0, .ref (zx_ad X 76)), (1, .int v1)] [] s (kb_5 v1 s)) : ∀ (v1 : Int32) (s : zS), zV X (zq X zrV) 3 23 [(0, .ref (zx_ad X 76)), (1, .int v1)] [] s (f_X8_readSum_23 q_X8_readTerm kb_5 v1 s) := by
  have hDP : zDP = 64 := rfl
  intro v1 s
  unfold f_X8_readSum_23
  refine zv_aload_n hX dX8_readSum_23 0 rfl ?_
  refine zv_geti hX wf_X8_120 wc_8 zd_76 zj_76_9 c9_8 zr_76_9 dX8_readSum_24 ?_
  refine zv_bipush (v := (nI 32)) hX dX8_readSum_27 zi_b_32 ?_
  refine zv_icmp_ne (tgt := 38) hX dX8_readSum_29 rfl ?_ ?_
  · refine zv_sipush (v := (nI 3001)) hX dX8_readSum_38 zi_s_3001 ?_
    exact b_X8_readSum_41 hX hT hq_X8_readTerm hk_5 v1 (nI 3001) s
  · refine zv_sipush (v := (nI 3000)) hX dX8_readSum_32 zi_s_3000 ?_
    refine zv_goto (tgt := 41) hX dX8_readSum_35 rfl ?_
    exact b_X8_readSum_41 hX hT hq_X8_readTerm hk_5 v1 (nI 3000) s
def f_X8_readSum_5 (q_X8_readTerm : Int32 → zS → Option (Unit × zS)) : Nat → Int32 → zS → Option (Unit × zS)
  | 0, _, _ => none
  | n + 1, v1, s =>
    zbd (f_X8_is (nI 32) s) fun r4 s5 =>
    if ¬ r4 = 0 then
    (f_X8_readSum_23 q_X8_readTerm (f_X8_readSum_5 q_X8_readTerm n) v1 s5)
    else
    zbd (f_X8_is (nI 33) s5) fun r6 s7 =>
    if r6 = 0 then
    (some ((), s7))
    else
    f_X8_readSum_23 q_X8_readTerm (f_X8_readSum_5 q_X8_readTerm n) v1 s7
set_option maxRecDepth 20000 in
theorem b_X8_readSum_5 {X : zX} {dd : Nat} {q_X8_readTerm : Int32 → zS → Option (Unit × zS)} (hX : zx_ok X cX8_readSum RX8 3) (hT : zx_rt X none (zR (7 + dd + 1) (150 + (dd + 1) * 22))) (hq_X8_readTerm : ∀ (v1 : Int32) (s : zS), zM (zx_Y X) yX8_readTerm cX8_readTerm 2 none (zR (7 + dd) (150 + dd * 22)) [.ref (zx_ad X 76), .int v1] s zrV (q_X8_readTerm v1 s)) : ∀ (n : Nat) (v1 : Int32) (s : zS), zV X (zq X zrV) 3 5 [(0, .ref (zx_ad X 76)), (1, .int v1)] [] s (f_X8_readSum_5 q_X8_readTerm n v1 s) := by
  have hDP : zDP = 64 := rfl
  intro n
  induction n with
  | zero => intro v1 s; exact zv_none
  | succ n ih =>
    intro v1 s
    rw [f_X8_readSum_5]
    refine zv_aload_n hX dX8_readSum_5 0 rfl ?_
    refine zv_bipush (v := (nI 32)) hX dX8_readSum_6 zi_b_32 ?_
    refine zv_cVI [.int (nI 32)] (rest := []) hX hT.2.2.2.2 (c_X8_is (zx_Y X) (nI 32) s) wv_X8_is c9_8 zd_76 wm_X8_144 rfl (by omega) (by omega) rfl (Nat.le_of_ble_eq_true rfl) dX8_readSum_8 (fun r4 s5 => ?_)
    refine zv_if_ne (tgt := 23) hX dX8_readSum_11 rfl ?_ ?_
    · exact b_X8_readSum_23 hX hT hq_X8_readTerm ih v1 s5
    · refine zv_aload_n hX dX8_readSum_14 0 rfl ?_
      refine zv_bipush (v := (nI 33)) hX dX8_readSum_15 zi_b_33 ?_
      refine zv_cVI [.int (nI 33)] (rest := []) hX hT.2.2.2.2 (c_X8_is (zx_Y X) (nI 33) s5) wv_X8_is c9_8 zd_76 wm_X8_144 rfl (by omega) (by omega) rfl (Nat.le_of_ble_eq_true rfl) dX8_readSum_17 (fun r6 s7 => ?_)
      refine zv_if_eq (tgt := 59) hX dX8_readSum_20 rfl ?_ ?_
      · exact zv_vret hX hT dX8_readSum_59
      · exact b_X8_readSum_23 hX hT hq_X8_readTerm ih v1 s7
def g_X8_readSum (q_X8_readTerm : Int32 → zS → Option (Unit × zS)) (v1 : Int32) (s : zS) : Option (Unit × zS) :=
  zbd (q_X8_readTerm v1 s) fun _ s8 =>
  f_X8_readSum_5 q_X8_readTerm zFU v1 s8
set_option maxRecDepth 20000 in
theorem e_X8_readSum {X : zX} {dd : Nat} {q_X8_readTerm : Int32 → zS → Option (Unit × zS)} (hX : zx_ok X cX8_readSum RX8 3) (hT : zx_rt X none (zR (7 + dd + 1) (150 + (dd + 1) * 22))) (hq_X8_readTerm : ∀ (v1 : Int32) (s : zS), zM (zx_Y X) yX8_readTerm cX8_readTerm 2 none (zR (7 + dd) (150 + dd * 22)) [.ref (zx_ad X 76), .int v1] s zrV (q_X8_readTerm v1 s)) : ∀ (v1 : Int32) (s : zS), zV X (zq X zrV) 3 0 [(0, .ref (zx_ad X 76)), (1, .int v1)] [] s (g_X8_readSum q_X8_readTerm v1 s) := by
  have hDP : zDP = 64 := rfl
  intro v1 s
  unfold g_X8_readSum
  refine zv_aload_n hX dX8_readSum_0 0 rfl ?_
  refine zv_iload_n hX dX8_readSum_1 1 rfl ?_
  refine zv_cVV [.int v1] (rest := []) hX hT.2.2.2.2 (hq_X8_readTerm v1 s) wv_X8_readTerm c9_8 zd_76 wm_X8_179 rfl (by omega) (by omega) rfl (Nat.le_of_ble_eq_true rfl) dX8_readSum_2 (fun _ s8 => ?_)
  exact b_X8_readSum_5 hX hT hq_X8_readTerm zFU v1 s8
def f_X8_readTerm_5 (q_X8_readAtom : Int32 → zS → Option (Unit × zS)) : Nat → Int32 → zS → Option (Unit × zS)
  | 0, _, _ => none
  | n + 1, v1, s =>
    zbd (f_X8_eats (nI 34) s) fun r1 s2 =>
    if r1 = 0 then
    (some ((), s2))
    else
    zbd (q_X8_readAtom v1 s2) fun _ s3 =>
    zbd (f_X8_codes (nI 3002) s3) fun _ s4 =>
    f_X8_readTerm_5 q_X8_readAtom n v1 s4
set_option maxRecDepth 20000 in
theorem b_X8_readTerm_5 {X : zX} {dd : Nat} {q_X8_readAtom : Int32 → zS → Option (Unit × zS)} (hX : zx_ok X cX8_readTerm RX8 2) (hT : zx_rt X none (zR (7 + dd + 1) (150 + (dd + 1) * 22))) (hq_X8_readAtom : ∀ (v1 : Int32) (s : zS), zM (zx_Y X) yX8_readAtom cX8_readAtom 2 none (zR (7 + dd) (150 + dd * 22)) [.ref (zx_ad X 76), .int v1] s zrV (q_X8_readAtom v1 s)) : ∀ (n : Nat) (v1 : Int32) (s : zS), zV X (zq X zrV) 2 5 [(0, .ref (zx_ad X 76)), (1, .int v1)] [] s (f_X8_readTerm_5 q_X8_readAtom n v1 s) := by
  have hDP : zDP = 64 := rfl
  intro n
  induction n with
  | zero => intro v1 s; exact zv_none
  | succ n ih =>
    intro v1 s
    rw [f_X8_readTerm_5]
    refine zv_aload_n hX dX8_readTerm_5 0 rfl ?_
    refine zv_bipush (v := (nI 34)) hX dX8_readTerm_6 zi_b_34 ?_
    refine zv_cVI [.int (nI 34)] (rest := []) hX hT.2.2.2.2 (c_X8_eats (zx_Y X) (nI 34) s) wv_X8_eats c9_8 zd_76 wm_X8_173 rfl (by omega) (by omega) rfl (Nat.le_of_ble_eq_true rfl) dX8_readTerm_8 (fun r1 s2 => ?_)
    refine zv_if_eq (tgt := 29) hX dX8_readTerm_11 rfl ?_ ?_
    · exact zv_vret hX hT dX8_readTerm_29
    · refine zv_aload_n hX dX8_readTerm_14 0 rfl ?_
      refine zv_iload_n hX dX8_readTerm_15 1 rfl ?_
      refine zv_cVV [.int v1] (rest := []) hX hT.2.2.2.2 (hq_X8_readAtom v1 s2) wv_X8_readAtom c9_8 zd_76 wm_X8_176 rfl (by omega) (by omega) rfl (Nat.le_of_ble_eq_true rfl) dX8_readTerm_16 (fun _ s3 => ?_)
      refine zv_aload_n hX dX8_readTerm_19 0 rfl ?_
      refine zv_sipush (v := (nI 3002)) hX dX8_readTerm_20 zi_s_3002 ?_
      refine zv_cVV [.int (nI 3002)] (rest := []) hX hT.2.2.2.2 (c_X8_codes (zx_Y X) (nI 3002) s3) wv_X8_codes c9_8 zd_76 wm_X8_161 rfl (by omega) (by omega) rfl (Nat.le_of_ble_eq_true rfl) dX8_readTerm_23 (fun _ s4 => ?_)
      refine zv_goto (tgt := 5) hX dX8_readTerm_26 rfl ?_
      exact ih v1 s4
def g_X8_readTerm (q_X8_readAtom : Int32 → zS → Option (Unit × zS)) (v1 : Int32) (s : zS) : Option (Unit × zS) :=
  zbd (q_X8_readAtom v1 s) fun _ s5 =>
  f_X8_readTerm_5 q_X8_readAtom zFU v1 s5
set_option maxRecDepth 20000 in
theorem e_X8_readTerm {X : zX} {dd : Nat} {q_X8_readAtom : Int32 → zS → Option (Unit × zS)} (hX : zx_ok X cX8_readTerm RX8 2) (hT : zx_rt X none (zR (7 + dd + 1) (150 + (dd + 1) * 22))) (hq_X8_readAtom : ∀ (v1 : Int32) (s : zS), zM (zx_Y X) yX8_readAtom cX8_readAtom 2 none (zR (7 + dd) (150 + dd * 22)) [.ref (zx_ad X 76), .int v1] s zrV (q_X8_readAtom v1 s)) : ∀ (v1 : Int32) (s : zS), zV X (zq X zrV) 2 0 [(0, .ref (zx_ad X 76)), (1, .int v1)] [] s (g_X8_readTerm q_X8_readAtom v1 s) := by
  have hDP : zDP = 64 := rfl
  intro v1 s
  unfold g_X8_readTerm
  refine zv_aload_n hX dX8_readTerm_0 0 rfl ?_
  refine zv_iload_n hX dX8_readTerm_1 1 rfl ?_
  refine zv_cVV [.int v1] (rest := []) hX hT.2.2.2.2 (hq_X8_readAtom v1 s) wv_X8_readAtom c9_8 zd_76 wm_X8_176 rfl (by omega) (by omega) rfl (Nat.le_of_ble_eq_true rfl) dX8_readTerm_2 (fun _ s5 => ?_)
  exact b_X8_readTerm_5 hX hT hq_X8_readAtom zFU v1 s5
def gg_X8_readAtom : Nat → (Int32 → zS → Option (Unit × zS)) × (Int32 → zS → Option (Unit × zS)) × (Int32 → zS → Option (Unit × zS))
  | 0 => (fun _ _ => none, fun _ _ => none, fun _ _ => none)
  | d + 1 => (g_X8_readAtom ((gg_X8_readAtom d).2.1), g_X8_readSum ((gg_X8_readAtom d).2.2), g_X8_readTerm ((gg_X8_readAtom d).1))
def f_X8_readAtom (d : Nat) (v1 : Int32) (s : zS) : Option (Unit × zS) := (gg_X8_readAtom d).1 v1 s
def f_X8_readSum (d : Nat) (v1 : Int32) (s : zS) : Option (Unit × zS) := (gg_X8_readAtom d).2.1 v1 s
def f_X8_readTerm (d : Nat) (v1 : Int32) (s : zS) : Option (Unit × zS) := (gg_X8_readAtom d).2.2 v1 s
theorem cc_X8_readAtom (Y : zG) : ∀ (d : Nat), (∀ (v1 : Int32) (s : zS), zM Y yX8_readAtom cX8_readAtom 2 none (zR (7 + d) (150 + d * 22)) [.ref (zy_a Y 76), .int v1] s zrV (f_X8_readAtom d v1 s)) ∧ (∀ (v1 : Int32) (s : zS), zM Y yX8_readSum cX8_readSum 3 none (zR (7 + d) (150 + d * 22)) [.ref (zy_a Y 76), .int v1] s zrV (f_X8_readSum d v1 s)) ∧ (∀ (v1 : Int32) (s : zS), zM Y yX8_readTerm cX8_readTerm 2 none (zR (7 + d) (150 + d * 22)) [.ref (zy_a Y 76), .int v1] s zrV (f_X8_readTerm d v1 s)) := by
  intro d
  induction d with
  | zero => exact ⟨fun v1 s rr h => (by simp [f_X8_readAtom, gg_X8_readAtom] at h), fun v1 s rr h => (by simp [f_X8_readSum, gg_X8_readAtom] at h), fun v1 s rr h => (by simp [f_X8_readTerm, gg_X8_readAtom] at h)⟩
  | succ d ih =>
    refine ⟨?_, ?_, ?_⟩
    · intro v1 s
      refine zm_start (by decide +kernel) (Nat.le_of_ble_eq_true rfl) ?_
      intro X hY hT hX
      subst hY
      have hX : zx_ok X cX8_readAtom RX8 2 := hX
      exact e_X8_readAtom (dd := d) hX hT ih.2.1 v1 s
    · intro v1 s
      refine zm_start (by decide +kernel) (Nat.le_of_ble_eq_true rfl) ?_
      intro X hY hT hX
      subst hY
      have hX : zx_ok X cX8_readSum RX8 3 := hX
      exact e_X8_readSum (dd := d) hX hT ih.2.2 v1 s
    · intro v1 s
      refine zm_start (by decide +kernel) (Nat.le_of_ble_eq_true rfl) ?_
      intro X hY hT hX
      subst hY
      have hX : zx_ok X cX8_readTerm RX8 2 := hX
      exact e_X8_readTerm (dd := d) hX hT ih.1 v1 s
theorem c_X8_readAtom (Y : zG) (d : Nat) (v1 : Int32) (s : zS) : zM Y yX8_readAtom cX8_readAtom 2 none (zR (7 + d) (150 + d * 22)) [.ref (zy_a Y 76), .int v1] s zrV (f_X8_readAtom d v1 s) := (cc_X8_readAtom Y d).1 v1 s
theorem c_X8_readSum (Y : zG) (d : Nat) (v1 : Int32) (s : zS) : zM Y yX8_readSum cX8_readSum 3 none (zR (7 + d) (150 + d * 22)) [.ref (zy_a Y 76), .int v1] s zrV (f_X8_readSum d v1 s) := (cc_X8_readAtom Y d).2.1 v1 s
theorem c_X8_readTerm (Y : zG) (d : Nat) (v1 : Int32) (s : zS) : zM Y yX8_readTerm cX8_readTerm 2 none (zR (7 + d) (150 + d * 22)) [.ref (zy_a Y 76), .int v1] s zrV (f_X8_readTerm d v1 s) := (cc_X8_readAtom Y d).2.2 v1 s
