theorem dX3_readAtom_0 : decode cX3_readAtom 0 = .ok (.aload_n 0, 1) := by decide +kernel
theorem dX3_readAtom_1 : decode cX3_readAtom 1 = .ok (.getfield 22, 3) := by decide +kernel
theorem dX3_readAtom_4 : decode cX3_readAtom 4 = .ok (.aload_n 0, 1) := by decide +kernel
theorem dX3_readAtom_5 : decode cX3_readAtom 5 = .ok (.getfield 39, 3) := by decide +kernel
theorem dX3_readAtom_8 : decode cX3_readAtom 8 = .ok (.iaload, 1) := by decide +kernel
theorem dX3_readAtom_9 : decode cX3_readAtom 9 = .ok (.istore_n 2, 1) := by decide +kernel
theorem dX3_readAtom_10 : decode cX3_readAtom 10 = .ok (.iload_n 2, 1) := by decide +kernel
theorem dX3_readAtom_11 : decode cX3_readAtom 11 = .ok (.sipush 1105, 3) := by decide +kernel
theorem dX3_readAtom_14 : decode cX3_readAtom 14 = .ok (.if_icmp .ne 58, 3) := by decide +kernel
theorem dX3_readAtom_17 : decode cX3_readAtom 17 = .ok (.iload_n 1, 1) := by decide +kernel
theorem dX3_readAtom_18 : decode cX3_readAtom 18 = .ok (.bipush 6, 2) := by decide +kernel
theorem dX3_readAtom_20 : decode cX3_readAtom 20 = .ok (.if_icmp .lt 9, 3) := by decide +kernel
theorem dX3_readAtom_23 : decode cX3_readAtom 23 = .ok (.aload_n 0, 1) := by decide +kernel
theorem dX3_readAtom_24 : decode cX3_readAtom 24 = .ok (.iconst 4, 1) := by decide +kernel
theorem dX3_readAtom_25 : decode cX3_readAtom 25 = .ok (.invokevirtual 94, 3) := by decide +kernel
theorem dX3_readAtom_28 : decode cX3_readAtom 28 = .ok (.ireturn, 1) := by decide +kernel
theorem dX3_readAtom_29 : decode cX3_readAtom 29 = .ok (.aload_n 0, 1) := by decide +kernel
theorem dX3_readAtom_30 : decode cX3_readAtom 30 = .ok (.invokevirtual 97, 3) := by decide +kernel
theorem dX3_readAtom_33 : decode cX3_readAtom 33 = .ok (.aload_n 0, 1) := by decide +kernel
theorem dX3_readAtom_34 : decode cX3_readAtom 34 = .ok (.iload_n 1, 1) := by decide +kernel
theorem dX3_readAtom_35 : decode cX3_readAtom 35 = .ok (.iconst 1, 1) := by decide +kernel
theorem dX3_readAtom_36 : decode cX3_readAtom 36 = .ok (.iadd, 1) := by decide +kernel
theorem dX3_readAtom_37 : decode cX3_readAtom 37 = .ok (.invokevirtual 116, 3) := by decide +kernel
theorem dX3_readAtom_40 : decode cX3_readAtom 40 = .ok (.ifCond .ne 5, 3) := by decide +kernel
theorem dX3_readAtom_43 : decode cX3_readAtom 43 = .ok (.iconst 0, 1) := by decide +kernel
theorem dX3_readAtom_44 : decode cX3_readAtom 44 = .ok (.ireturn, 1) := by decide +kernel
theorem dX3_readAtom_45 : decode cX3_readAtom 45 = .ok (.aload_n 0, 1) := by decide +kernel
theorem dX3_readAtom_46 : decode cX3_readAtom 46 = .ok (.getfield 22, 3) := by decide +kernel
theorem dX3_readAtom_49 : decode cX3_readAtom 49 = .ok (.aload_n 0, 1) := by decide +kernel
theorem dX3_readAtom_50 : decode cX3_readAtom 50 = .ok (.getfield 39, 3) := by decide +kernel
theorem dX3_readAtom_53 : decode cX3_readAtom 53 = .ok (.iaload, 1) := by decide +kernel
theorem dX3_readAtom_54 : decode cX3_readAtom 54 = .ok (.sipush 1106, 3) := by decide +kernel
theorem dX3_readAtom_57 : decode cX3_readAtom 57 = .ok (.if_icmp .eq 9, 3) := by decide +kernel
theorem dX3_readAtom_60 : decode cX3_readAtom 60 = .ok (.aload_n 0, 1) := by decide +kernel
theorem dX3_readAtom_61 : decode cX3_readAtom 61 = .ok (.iconst 2, 1) := by decide +kernel
theorem dX3_readAtom_62 : decode cX3_readAtom 62 = .ok (.invokevirtual 94, 3) := by decide +kernel
theorem dX3_readAtom_65 : decode cX3_readAtom 65 = .ok (.ireturn, 1) := by decide +kernel
theorem dX3_readAtom_66 : decode cX3_readAtom 66 = .ok (.aload_n 0, 1) := by decide +kernel
theorem dX3_readAtom_67 : decode cX3_readAtom 67 = .ok (.invokevirtual 97, 3) := by decide +kernel
theorem dX3_readAtom_70 : decode cX3_readAtom 70 = .ok (.iconst 1, 1) := by decide +kernel
theorem dX3_readAtom_71 : decode cX3_readAtom 71 = .ok (.ireturn, 1) := by decide +kernel
theorem dX3_readAtom_72 : decode cX3_readAtom 72 = .ok (.iload_n 2, 1) := by decide +kernel
theorem dX3_readAtom_73 : decode cX3_readAtom 73 = .ok (.sipush 1000, 3) := by decide +kernel
theorem dX3_readAtom_76 : decode cX3_readAtom 76 = .ok (.if_icmp .lt 17, 3) := by decide +kernel
theorem dX3_readAtom_79 : decode cX3_readAtom 79 = .ok (.aload_n 0, 1) := by decide +kernel
theorem dX3_readAtom_80 : decode cX3_readAtom 80 = .ok (.iload_n 2, 1) := by decide +kernel
theorem dX3_readAtom_81 : decode cX3_readAtom 81 = .ok (.invokevirtual 180, 3) := by decide +kernel
theorem dX3_readAtom_84 : decode cX3_readAtom 84 = .ok (.ifCond .ne 9, 3) := by decide +kernel
theorem dX3_readAtom_87 : decode cX3_readAtom 87 = .ok (.aload_n 0, 1) := by decide +kernel
theorem dX3_readAtom_88 : decode cX3_readAtom 88 = .ok (.iconst 2, 1) := by decide +kernel
theorem dX3_readAtom_89 : decode cX3_readAtom 89 = .ok (.invokevirtual 94, 3) := by decide +kernel
theorem dX3_readAtom_92 : decode cX3_readAtom 92 = .ok (.ireturn, 1) := by decide +kernel
theorem dX3_readAtom_93 : decode cX3_readAtom 93 = .ok (.aload_n 0, 1) := by decide +kernel
theorem dX3_readAtom_94 : decode cX3_readAtom 94 = .ok (.iload_n 2, 1) := by decide +kernel
theorem dX3_readAtom_95 : decode cX3_readAtom 95 = .ok (.invokevirtual 174, 3) := by decide +kernel
theorem dX3_readAtom_98 : decode cX3_readAtom 98 = .ok (.aload_n 0, 1) := by decide +kernel
theorem dX3_readAtom_99 : decode cX3_readAtom 99 = .ok (.invokevirtual 97, 3) := by decide +kernel
theorem dX3_readAtom_102 : decode cX3_readAtom 102 = .ok (.iconst 1, 1) := by decide +kernel
theorem dX3_readAtom_103 : decode cX3_readAtom 103 = .ok (.ireturn, 1) := by decide +kernel
theorem dX3_readSum_0 : decode cX3_readSum 0 = .ok (.iconst 0, 1) := by decide +kernel
theorem dX3_readSum_1 : decode cX3_readSum 1 = .ok (.istore_n 2, 1) := by decide +kernel
theorem dX3_readSum_2 : decode cX3_readSum 2 = .ok (.sipush 1000, 3) := by decide +kernel
theorem dX3_readSum_5 : decode cX3_readSum 5 = .ok (.istore_n 3, 1) := by decide +kernel
theorem dX3_readSum_6 : decode cX3_readSum 6 = .ok (.iconst 0, 1) := by decide +kernel
theorem dX3_readSum_7 : decode cX3_readSum 7 = .ok (.istore 4, 2) := by decide +kernel
theorem dX3_readSum_9 : decode cX3_readSum 9 = .ok (.iload 4, 2) := by decide +kernel
theorem dX3_readSum_11 : decode cX3_readSum 11 = .ok (.sipush 900, 3) := by decide +kernel
theorem dX3_readSum_14 : decode cX3_readSum 14 = .ok (.if_icmp .ge 97, 3) := by decide +kernel
theorem dX3_readSum_17 : decode cX3_readSum 17 = .ok (.aload_n 0, 1) := by decide +kernel
theorem dX3_readSum_18 : decode cX3_readSum 18 = .ok (.iload_n 1, 1) := by decide +kernel
theorem dX3_readSum_19 : decode cX3_readSum 19 = .ok (.invokevirtual 177, 3) := by decide +kernel
theorem dX3_readSum_22 : decode cX3_readSum 22 = .ok (.ifCond .ne 5, 3) := by decide +kernel
theorem dX3_readSum_25 : decode cX3_readSum 25 = .ok (.iconst 0, 1) := by decide +kernel
theorem dX3_readSum_26 : decode cX3_readSum 26 = .ok (.ireturn, 1) := by decide +kernel
theorem dX3_readSum_27 : decode cX3_readSum 27 = .ok (.iload_n 2, 1) := by decide +kernel
theorem dX3_readSum_28 : decode cX3_readSum 28 = .ok (.ifCond .eq 10, 3) := by decide +kernel
theorem dX3_readSum_31 : decode cX3_readSum 31 = .ok (.aload_n 0, 1) := by decide +kernel
theorem dX3_readSum_32 : decode cX3_readSum 32 = .ok (.sipush 1104, 3) := by decide +kernel
theorem dX3_readSum_35 : decode cX3_readSum 35 = .ok (.invokevirtual 174, 3) := by decide +kernel
theorem dX3_readSum_38 : decode cX3_readSum 38 = .ok (.aload_n 0, 1) := by decide +kernel
theorem dX3_readSum_39 : decode cX3_readSum 39 = .ok (.getfield 22, 3) := by decide +kernel
theorem dX3_readSum_42 : decode cX3_readSum 42 = .ok (.aload_n 0, 1) := by decide +kernel
theorem dX3_readSum_43 : decode cX3_readSum 43 = .ok (.getfield 39, 3) := by decide +kernel
theorem dX3_readSum_46 : decode cX3_readSum 46 = .ok (.iaload, 1) := by decide +kernel
theorem dX3_readSum_47 : decode cX3_readSum 47 = .ok (.sipush 1104, 3) := by decide +kernel
theorem dX3_readSum_50 : decode cX3_readSum 50 = .ok (.if_icmp .ne 7, 3) := by decide +kernel
theorem dX3_readSum_53 : decode cX3_readSum 53 = .ok (.iconst 1, 1) := by decide +kernel
theorem dX3_readSum_54 : decode cX3_readSum 54 = .ok (.goto 4, 3) := by decide +kernel
theorem dX3_readSum_57 : decode cX3_readSum 57 = .ok (.iconst 0, 1) := by decide +kernel
theorem dX3_readSum_58 : decode cX3_readSum 58 = .ok (.istore_n 2, 1) := by decide +kernel
theorem dX3_readSum_59 : decode cX3_readSum 59 = .ok (.iload_n 2, 1) := by decide +kernel
theorem dX3_readSum_60 : decode cX3_readSum 60 = .ok (.ifCond .ne 41, 3) := by decide +kernel
theorem dX3_readSum_63 : decode cX3_readSum 63 = .ok (.iload_n 3, 1) := by decide +kernel
theorem dX3_readSum_64 : decode cX3_readSum 64 = .ok (.sipush 1000, 3) := by decide +kernel
theorem dX3_readSum_67 : decode cX3_readSum 67 = .ok (.if_icmp .eq 8, 3) := by decide +kernel
theorem dX3_readSum_70 : decode cX3_readSum 70 = .ok (.aload_n 0, 1) := by decide +kernel
theorem dX3_readSum_71 : decode cX3_readSum 71 = .ok (.iload_n 3, 1) := by decide +kernel
theorem dX3_readSum_72 : decode cX3_readSum 72 = .ok (.invokevirtual 174, 3) := by decide +kernel
theorem dX3_readSum_75 : decode cX3_readSum 75 = .ok (.aload_n 0, 1) := by decide +kernel
theorem dX3_readSum_76 : decode cX3_readSum 76 = .ok (.getfield 22, 3) := by decide +kernel
theorem dX3_readSum_79 : decode cX3_readSum 79 = .ok (.aload_n 0, 1) := by decide +kernel
theorem dX3_readSum_80 : decode cX3_readSum 80 = .ok (.getfield 39, 3) := by decide +kernel
theorem dX3_readSum_83 : decode cX3_readSum 83 = .ok (.iaload, 1) := by decide +kernel
theorem dX3_readSum_84 : decode cX3_readSum 84 = .ok (.istore_n 3, 1) := by decide +kernel
theorem dX3_readSum_85 : decode cX3_readSum 85 = .ok (.iload_n 3, 1) := by decide +kernel
theorem dX3_readSum_86 : decode cX3_readSum 86 = .ok (.sipush 1102, 3) := by decide +kernel
theorem dX3_readSum_89 : decode cX3_readSum 89 = .ok (.if_icmp .eq 12, 3) := by decide +kernel
theorem dX3_readSum_92 : decode cX3_readSum 92 = .ok (.iload_n 3, 1) := by decide +kernel
theorem dX3_readSum_93 : decode cX3_readSum 93 = .ok (.sipush 1103, 3) := by decide +kernel
theorem dX3_readSum_96 : decode cX3_readSum 96 = .ok (.if_icmp .eq 5, 3) := by decide +kernel
theorem dX3_readSum_99 : decode cX3_readSum 99 = .ok (.iconst 1, 1) := by decide +kernel
theorem dX3_readSum_100 : decode cX3_readSum 100 = .ok (.ireturn, 1) := by decide +kernel
theorem dX3_readSum_101 : decode cX3_readSum 101 = .ok (.aload_n 0, 1) := by decide +kernel
theorem dX3_readSum_102 : decode cX3_readSum 102 = .ok (.invokevirtual 97, 3) := by decide +kernel
theorem dX3_readSum_105 : decode cX3_readSum 105 = .ok (.iinc 4 1, 3) := by decide +kernel
theorem dX3_readSum_108 : decode cX3_readSum 108 = .ok (.goto (-99), 3) := by decide +kernel
theorem dX3_readSum_111 : decode cX3_readSum 111 = .ok (.aload_n 0, 1) := by decide +kernel
theorem dX3_readSum_112 : decode cX3_readSum 112 = .ok (.iconst 2, 1) := by decide +kernel
theorem dX3_readSum_113 : decode cX3_readSum 113 = .ok (.invokevirtual 94, 3) := by decide +kernel
theorem dX3_readSum_116 : decode cX3_readSum 116 = .ok (.ireturn, 1) := by decide +kernel
def f_X3_readAtom_93 (q_X3_readSum : Int32 → zS → Option (Int32 × zS)) (v2 : Int32) (s : zS) : Option (Int32 × zS) :=
  zbd (f_X3_emit v2 s) fun _ s1 =>
  zbd (f_X3_step s1) fun _ s2 =>
  some ((1 : Int32), s2)
set_option maxRecDepth 20000 in
theorem b_X3_readAtom_93 {X : zX} {dd : Nat} {q_X3_readSum : Int32 → zS → Option (Int32 × zS)} (hX : zx_ok X cX3_readAtom RX3 3) (hT : zx_rt X (some .boolean) (zR (1 + dd + 1) (21 + (dd + 1) * 24))) (hq_X3_readSum : ∀ (v1 : Int32) (s : zS), zM (zx_Y X) yX3_readSum cX3_readSum 5 (some .boolean) (zR (1 + dd) (21 + dd * 24)) [.ref (zx_ad X 30), .int v1] s zrI (q_X3_readSum v1 s)) : ∀ (v2 : Int32) (s : zS), zV X (zq X zrI) 3 93 [(0, .ref (zx_ad X 30)), (2, .int v2)] [] s (f_X3_readAtom_93 q_X3_readSum v2 s) := by
  have hDP : zDP = 64 := rfl
  intro v2 s
  unfold f_X3_readAtom_93
  refine zv_aload_n hX dX3_readAtom_93 0 rfl ?_
  refine zv_iload_n hX dX3_readAtom_94 1 rfl ?_
  refine zv_cVV [.int v2] (rest := []) hX hT.2.2.2.2 (c_X3_emit (zx_Y X) v2 s) wv_X3_emit c9_3 zd_30 wm_X3_174 rfl (by omega) (by omega) rfl (Nat.le_of_ble_eq_true rfl) dX3_readAtom_95 (fun _ s1 => ?_)
  refine zv_aload_n hX dX3_readAtom_98 0 rfl ?_
  refine zv_cVV [] (rest := []) hX hT.2.2.2.2 (c_X3_step (zx_Y X) s1) wv_X3_step c9_3 zd_30 wm_X3_97 rfl (by omega) (by omega) rfl (Nat.le_of_ble_eq_true rfl) dX3_readAtom_99 (fun _ s2 => ?_)
  refine zv_iconst (v := (1 : Int32)) hX dX3_readAtom_102 zi_i_1 ?_
  exact zv_iretz hX hT (by decide) dX3_readAtom_103
def g_X3_readAtom (q_X3_readSum : Int32 → zS → Option (Int32 × zS)) (v1 : Int32) (s : zS) : Option (Int32 × zS) :=
  (zr_i s 40 (s.1 30 5)).bind fun x3 =>
  if ¬ x3 = (nI 1105) then
  (if x3 < (nI 1000) then
  (f_X3_readAtom_93 q_X3_readSum x3 s)
  else
  zbd (f_X3_isName x3 s) fun r4 s5 =>
  if ¬ r4 = 0 then
  (f_X3_readAtom_93 q_X3_readSum x3 s5)
  else
  zbd (f_X3_refuse (nI 2) s5) fun r6 s7 =>
  if r6 = 0 ∨ r6 = 1 then some (r6, s7) else none)
  else
  if v1 < (nI 6) then
  (zbd (f_X3_step s) fun _ s8 =>
  zbd (q_X3_readSum (v1 + (1 : Int32)) s8) fun r9 s10 =>
  if ¬ r9 = 0 then
  ((zr_i s10 40 (s10.1 30 5)).bind fun x11 =>
  if x11 = (nI 1106) then
  (zbd (f_X3_step s10) fun _ s12 =>
  some ((1 : Int32), s12))
  else
  zbd (f_X3_refuse (nI 2) s10) fun r13 s14 =>
  if r13 = 0 ∨ r13 = 1 then some (r13, s14) else none)
  else
  some ((0 : Int32), s10))
  else
  zbd (f_X3_refuse (nI 4) s) fun r15 s16 =>
  if r15 = 0 ∨ r15 = 1 then some (r15, s16) else none
set_option maxRecDepth 20000 in
theorem e_X3_readAtom {X : zX} {dd : Nat} {q_X3_readSum : Int32 → zS → Option (Int32 × zS)} (hX : zx_ok X cX3_readAtom RX3 3) (hT : zx_rt X (some .boolean) (zR (1 + dd + 1) (21 + (dd + 1) * 24))) (hq_X3_readSum : ∀ (v1 : Int32) (s : zS), zM (zx_Y X) yX3_readSum cX3_readSum 5 (some .boolean) (zR (1 + dd) (21 + dd * 24)) [.ref (zx_ad X 30), .int v1] s zrI (q_X3_readSum v1 s)) : ∀ (v1 : Int32) (s : zS), zV X (zq X zrI) 3 0 [(0, .ref (zx_ad X 30)), (1, .int v1)] [] s (g_X3_readAtom q_X3_readSum v1 s) := by
  have hDP : zDP = 64 := rfl
  intro v1 s
  unfold g_X3_readAtom
  refine zv_aload_n hX dX3_readAtom_0 0 rfl ?_
  refine zv_geta hX wf_X3_22 wc_3 zd_30 zj_30_3 c9_3 zr_30_3 (by decide) dX3_readAtom_1 ?_
  refine zv_aload_n hX dX3_readAtom_4 0 rfl ?_
  refine zv_geti hX wf_X3_39 wc_3 zd_30 zj_30_5 c9_3 zr_30_5 dX3_readAtom_5 ?_
  refine zv_iald hX dX3_readAtom_8 (fun x3 => ?_)
  refine zv_istore_n (lv' := [(2, .int x3), (0, .ref (zx_ad X 30)), (1, .int v1)]) hX dX3_readAtom_9 (by decide) rfl ?_
  refine zv_iload_n hX dX3_readAtom_10 0 rfl ?_
  refine zv_sipush (v := (nI 1105)) hX dX3_readAtom_11 zi_s_1105 ?_
  refine zv_icmp_ne (tgt := 72) hX dX3_readAtom_14 rfl ?_ ?_
  · refine zv_iload_n hX dX3_readAtom_72 0 rfl ?_
    refine zv_sipush (v := (nI 1000)) hX dX3_readAtom_73 zi_s_1000 ?_
    refine zv_icmp_lt (tgt := 93) hX dX3_readAtom_76 rfl ?_ ?_
    · exact zv_sub [1, 0] rfl (b_X3_readAtom_93 hX hT hq_X3_readSum x3 s)
    · refine zv_aload_n hX dX3_readAtom_79 1 rfl ?_
      refine zv_iload_n hX dX3_readAtom_80 0 rfl ?_
      refine zv_cVI [.int x3] (rest := []) hX hT.2.2.2.2 (c_X3_isName (zx_Y X) x3 s) wv_X3_isName c9_3 zd_30 wm_X3_180 rfl (by omega) (by omega) rfl (Nat.le_of_ble_eq_true rfl) dX3_readAtom_81 (fun r4 s5 => ?_)
      refine zv_if_ne (tgt := 93) hX dX3_readAtom_84 rfl ?_ ?_
      · exact zv_sub [1, 0] rfl (b_X3_readAtom_93 hX hT hq_X3_readSum x3 s5)
      · refine zv_aload_n hX dX3_readAtom_87 1 rfl ?_
        refine zv_iconst (v := (nI 2)) hX dX3_readAtom_88 zi_i_2 ?_
        refine zv_cVI [.int (nI 2)] (rest := []) hX hT.2.2.2.2 (c_X3_refuse (zx_Y X) (nI 2) s5) wv_X3_refuse c9_3 zd_30 wm_X3_94 rfl (by omega) (by omega) rfl (Nat.le_of_ble_eq_true rfl) dX3_readAtom_89 (fun r6 s7 => ?_)
        exact zv_iretzB hX hT dX3_readAtom_92
  · refine zv_iload_n hX dX3_readAtom_17 2 rfl ?_
    refine zv_bipush (v := (nI 6)) hX dX3_readAtom_18 zi_b_6 ?_
    refine zv_icmp_lt (tgt := 29) hX dX3_readAtom_20 rfl ?_ ?_
    · refine zv_aload_n hX dX3_readAtom_29 1 rfl ?_
      refine zv_cVV [] (rest := []) hX hT.2.2.2.2 (c_X3_step (zx_Y X) s) wv_X3_step c9_3 zd_30 wm_X3_97 rfl (by omega) (by omega) rfl (Nat.le_of_ble_eq_true rfl) dX3_readAtom_30 (fun _ s8 => ?_)
      refine zv_aload_n hX dX3_readAtom_33 1 rfl ?_
      refine zv_iload_n hX dX3_readAtom_34 2 rfl ?_
      refine zv_iconst (v := (1 : Int32)) hX dX3_readAtom_35 zi_i_1 ?_
      refine zv_iadd hX dX3_readAtom_36 ?_
      refine zv_cVI [.int (v1 + (1 : Int32))] (rest := []) hX hT.2.2.2.2 (hq_X3_readSum (v1 + (1 : Int32)) s8) wv_X3_readSum c9_3 zd_30 wm_X3_116 rfl (by omega) (by omega) rfl (Nat.le_of_ble_eq_true rfl) dX3_readAtom_37 (fun r9 s10 => ?_)
      refine zv_if_ne (tgt := 45) hX dX3_readAtom_40 rfl ?_ ?_
      · refine zv_aload_n hX dX3_readAtom_45 1 rfl ?_
        refine zv_geta hX wf_X3_22 wc_3 zd_30 zj_30_3 c9_3 zr_30_3 (by decide) dX3_readAtom_46 ?_
        refine zv_aload_n hX dX3_readAtom_49 1 rfl ?_
        refine zv_geti hX wf_X3_39 wc_3 zd_30 zj_30_5 c9_3 zr_30_5 dX3_readAtom_50 ?_
        refine zv_iald hX dX3_readAtom_53 (fun x11 => ?_)
        refine zv_sipush (v := (nI 1106)) hX dX3_readAtom_54 zi_s_1106 ?_
        refine zv_icmp_eq (tgt := 66) hX dX3_readAtom_57 rfl ?_ ?_
        · refine zv_aload_n hX dX3_readAtom_66 1 rfl ?_
          refine zv_cVV [] (rest := []) hX hT.2.2.2.2 (c_X3_step (zx_Y X) s10) wv_X3_step c9_3 zd_30 wm_X3_97 rfl (by omega) (by omega) rfl (Nat.le_of_ble_eq_true rfl) dX3_readAtom_67 (fun _ s12 => ?_)
          refine zv_iconst (v := (1 : Int32)) hX dX3_readAtom_70 zi_i_1 ?_
          exact zv_iretz hX hT (by decide) dX3_readAtom_71
        · refine zv_aload_n hX dX3_readAtom_60 1 rfl ?_
          refine zv_iconst (v := (nI 2)) hX dX3_readAtom_61 zi_i_2 ?_
          refine zv_cVI [.int (nI 2)] (rest := []) hX hT.2.2.2.2 (c_X3_refuse (zx_Y X) (nI 2) s10) wv_X3_refuse c9_3 zd_30 wm_X3_94 rfl (by omega) (by omega) rfl (Nat.le_of_ble_eq_true rfl) dX3_readAtom_62 (fun r13 s14 => ?_)
          exact zv_iretzB hX hT dX3_readAtom_65
      · refine zv_iconst (v := (0 : Int32)) hX dX3_readAtom_43 zi_i_0 ?_
        exact zv_iretz hX hT (by decide) dX3_readAtom_44
    · refine zv_aload_n hX dX3_readAtom_23 1 rfl ?_
      refine zv_iconst (v := (nI 4)) hX dX3_readAtom_24 zi_i_4 ?_
      refine zv_cVI [.int (nI 4)] (rest := []) hX hT.2.2.2.2 (c_X3_refuse (zx_Y X) (nI 4) s) wv_X3_refuse c9_3 zd_30 wm_X3_94 rfl (by omega) (by omega) rfl (Nat.le_of_ble_eq_true rfl) dX3_readAtom_25 (fun r15 s16 => ?_)
      exact zv_iretzB hX hT dX3_readAtom_28
def f_X3_readSum_101 (q_X3_readAtom : Int32 → zS → Option (Int32 × zS)) (kb_9 : Int32 → Int32 → Int32 → Int32 → zS → Option (Int32 × zS)) (v1 : Int32) (v2 : Int32) (v3 : Int32) (v4 : Int32) (s : zS) : Option (Int32 × zS) :=
  zbd (f_X3_step s) fun _ s1 =>
  zb (v4 + (1 : Int32)) fun x2 =>
  kb_9 v1 v2 v3 x2 s1
set_option maxRecDepth 20000 in
theorem b_X3_readSum_101 {X : zX} {dd : Nat} {q_X3_readAtom : Int32 → zS → Option (Int32 × zS)} {kb_9 : Int32 → Int32 → Int32 → Int32 → zS → Option (Int32 × zS)} (hX : zx_ok X cX3_readSum RX3 5) (hT : zx_rt X (some .boolean) (zR (1 + dd + 1) (21 + (dd + 1) * 24))) (hq_X3_readAtom : ∀ (v1 : Int32) (s : zS), zM (zx_Y X) yX3_readAtom cX3_readAtom 3 (some .boolean) (zR (1 + dd) (21 + dd * 24)) [.ref (zx_ad X 30), .int v1] s zrI (q_X3_readAtom v1 s)) (hk_9 : ∀ (v1 : Int32) (v2 : Int32) (v3 : Int32) (v4 : Int32) (s : zS), zV X (zq X zrI) 5 9 [(0, .ref (zx_ad X 30)), (1, .int v1), (2, .int v2), (3, .int v3), (4, .int v4)] [] s (kb_9 v1 v2 v3 v4 s)) : ∀ (v1 : Int32) (v2 : Int32) (v3 : Int32) (v4 : Int32) (s : zS), zV X (zq X zrI) 5 101 [(0, .ref (zx_ad X 30)), (1, .int v1), (2, .int v2), (3, .int v3), (4, .int v4)] [] s (f_X3_readSum_101 q_X3_readAtom kb_9 v1 v2 v3 v4 s) := by
  have hDP : zDP = 64 := rfl
  intro v1 v2 v3 v4 s
  unfold f_X3_readSum_101
  refine zv_aload_n hX dX3_readSum_101 0 rfl ?_
  refine zv_cVV [] (rest := []) hX hT.2.2.2.2 (c_X3_step (zx_Y X) s) wv_X3_step c9_3 zd_30 wm_X3_97 rfl (by omega) (by omega) rfl (Nat.le_of_ble_eq_true rfl) dX3_readSum_102 (fun _ s1 => ?_)
  refine zv_iincB (lw := fun x2 => [(4, .int x2), (0, .ref (zx_ad X 30)), (1, .int v1), (2, .int v2), (3, .int v3)]) hX dX3_readSum_105 4 rfl zi_i_1 (by decide) (fun _ => rfl) (fun x2 => ?_)
  refine zv_goto (tgt := 9) hX dX3_readSum_108 rfl ?_
  exact zv_sub [1, 2, 3, 4, 0] rfl (hk_9 v1 v2 v3 x2 s1)
def f_X3_readSum_75 (q_X3_readAtom : Int32 → zS → Option (Int32 × zS)) (kb_9 : Int32 → Int32 → Int32 → Int32 → zS → Option (Int32 × zS)) (v1 : Int32) (v2 : Int32) (v4 : Int32) (s : zS) : Option (Int32 × zS) :=
  (zr_i s 40 (s.1 30 5)).bind fun x3 =>
  if x3 = (nI 1102) then
  (f_X3_readSum_101 q_X3_readAtom kb_9 v1 v2 x3 v4 s)
  else
  if x3 = (nI 1103) then
  (f_X3_readSum_101 q_X3_readAtom kb_9 v1 v2 x3 v4 s)
  else
  some ((1 : Int32), s)
set_option maxRecDepth 20000 in
theorem b_X3_readSum_75 {X : zX} {dd : Nat} {q_X3_readAtom : Int32 → zS → Option (Int32 × zS)} {kb_9 : Int32 → Int32 → Int32 → Int32 → zS → Option (Int32 × zS)} (hX : zx_ok X cX3_readSum RX3 5) (hT : zx_rt X (some .boolean) (zR (1 + dd + 1) (21 + (dd + 1) * 24))) (hq_X3_readAtom : ∀ (v1 : Int32) (s : zS), zM (zx_Y X) yX3_readAtom cX3_readAtom 3 (some .boolean) (zR (1 + dd) (21 + dd * 24)) [.ref (zx_ad X 30), .int v1] s zrI (q_X3_readAtom v1 s)) (hk_9 : ∀ (v1 : Int32) (v2 : Int32) (v3 : Int32) (v4 : Int32) (s : zS), zV X (zq X zrI) 5 9 [(0, .ref (zx_ad X 30)), (1, .int v1), (2, .int v2), (3, .int v3), (4, .int v4)] [] s (kb_9 v1 v2 v3 v4 s)) : ∀ (v1 : Int32) (v2 : Int32) (v4 : Int32) (s : zS), zV X (zq X zrI) 5 75 [(0, .ref (zx_ad X 30)), (1, .int v1), (2, .int v2), (4, .int v4)] [] s (f_X3_readSum_75 q_X3_readAtom kb_9 v1 v2 v4 s) := by
  have hDP : zDP = 64 := rfl
  intro v1 v2 v4 s
  unfold f_X3_readSum_75
  refine zv_aload_n hX dX3_readSum_75 0 rfl ?_
  refine zv_geta hX wf_X3_22 wc_3 zd_30 zj_30_3 c9_3 zr_30_3 (by decide) dX3_readSum_76 ?_
  refine zv_aload_n hX dX3_readSum_79 0 rfl ?_
  refine zv_geti hX wf_X3_39 wc_3 zd_30 zj_30_5 c9_3 zr_30_5 dX3_readSum_80 ?_
  refine zv_iald hX dX3_readSum_83 (fun x3 => ?_)
  refine zv_istore_n (lv' := [(3, .int x3), (0, .ref (zx_ad X 30)), (1, .int v1), (2, .int v2), (4, .int v4)]) hX dX3_readSum_84 (by decide) rfl ?_
  refine zv_iload_n hX dX3_readSum_85 0 rfl ?_
  refine zv_sipush (v := (nI 1102)) hX dX3_readSum_86 zi_s_1102 ?_
  refine zv_icmp_eq (tgt := 101) hX dX3_readSum_89 rfl ?_ ?_
  · exact zv_sub [1, 2, 3, 0, 4] rfl (b_X3_readSum_101 hX hT hq_X3_readAtom hk_9 v1 v2 x3 v4 s)
  · refine zv_iload_n hX dX3_readSum_92 0 rfl ?_
    refine zv_sipush (v := (nI 1103)) hX dX3_readSum_93 zi_s_1103 ?_
    refine zv_icmp_eq (tgt := 101) hX dX3_readSum_96 rfl ?_ ?_
    · exact zv_sub [1, 2, 3, 0, 4] rfl (b_X3_readSum_101 hX hT hq_X3_readAtom hk_9 v1 v2 x3 v4 s)
    · refine zv_iconst (v := (1 : Int32)) hX dX3_readSum_99 zi_i_1 ?_
      exact zv_iretz hX hT (by decide) dX3_readSum_100
def f_X3_readSum_58 (q_X3_readAtom : Int32 → zS → Option (Int32 × zS)) (kb_9 : Int32 → Int32 → Int32 → Int32 → zS → Option (Int32 × zS)) (v1 : Int32) (v3 : Int32) (v4 : Int32) (w0 : Int32) (s : zS) : Option (Int32 × zS) :=
  if ¬ w0 = 0 then
  (f_X3_readSum_101 q_X3_readAtom kb_9 v1 w0 v3 v4 s)
  else
  if v3 = (nI 1000) then
  (f_X3_readSum_75 q_X3_readAtom kb_9 v1 w0 v4 s)
  else
  zbd (f_X3_emit v3 s) fun _ s4 =>
  f_X3_readSum_75 q_X3_readAtom kb_9 v1 w0 v4 s4
set_option maxRecDepth 20000 in
theorem b_X3_readSum_58 {X : zX} {dd : Nat} {q_X3_readAtom : Int32 → zS → Option (Int32 × zS)} {kb_9 : Int32 → Int32 → Int32 → Int32 → zS → Option (Int32 × zS)} (hX : zx_ok X cX3_readSum RX3 5) (hT : zx_rt X (some .boolean) (zR (1 + dd + 1) (21 + (dd + 1) * 24))) (hq_X3_readAtom : ∀ (v1 : Int32) (s : zS), zM (zx_Y X) yX3_readAtom cX3_readAtom 3 (some .boolean) (zR (1 + dd) (21 + dd * 24)) [.ref (zx_ad X 30), .int v1] s zrI (q_X3_readAtom v1 s)) (hk_9 : ∀ (v1 : Int32) (v2 : Int32) (v3 : Int32) (v4 : Int32) (s : zS), zV X (zq X zrI) 5 9 [(0, .ref (zx_ad X 30)), (1, .int v1), (2, .int v2), (3, .int v3), (4, .int v4)] [] s (kb_9 v1 v2 v3 v4 s)) : ∀ (v1 : Int32) (v3 : Int32) (v4 : Int32) (w0 : Int32) (s : zS), zV X (zq X zrI) 5 58 [(0, .ref (zx_ad X 30)), (1, .int v1), (3, .int v3), (4, .int v4)] [.int w0] s (f_X3_readSum_58 q_X3_readAtom kb_9 v1 v3 v4 w0 s) := by
  have hDP : zDP = 64 := rfl
  intro v1 v3 v4 w0 s
  unfold f_X3_readSum_58
  refine zv_istore_n (lv' := [(2, .int w0), (0, .ref (zx_ad X 30)), (1, .int v1), (3, .int v3), (4, .int v4)]) hX dX3_readSum_58 (by decide) rfl ?_
  refine zv_iload_n hX dX3_readSum_59 0 rfl ?_
  refine zv_if_ne (tgt := 101) hX dX3_readSum_60 rfl ?_ ?_
  · exact zv_sub [1, 2, 0, 3, 4] rfl (b_X3_readSum_101 hX hT hq_X3_readAtom hk_9 v1 w0 v3 v4 s)
  · refine zv_iload_n hX dX3_readSum_63 3 rfl ?_
    refine zv_sipush (v := (nI 1000)) hX dX3_readSum_64 zi_s_1000 ?_
    refine zv_icmp_eq (tgt := 75) hX dX3_readSum_67 rfl ?_ ?_
    · exact zv_sub [1, 2, 0, 4] rfl (b_X3_readSum_75 hX hT hq_X3_readAtom hk_9 v1 w0 v4 s)
    · refine zv_aload_n hX dX3_readSum_70 1 rfl ?_
      refine zv_iload_n hX dX3_readSum_71 3 rfl ?_
      refine zv_cVV [.int v3] (rest := []) hX hT.2.2.2.2 (c_X3_emit (zx_Y X) v3 s) wv_X3_emit c9_3 zd_30 wm_X3_174 rfl (by omega) (by omega) rfl (Nat.le_of_ble_eq_true rfl) dX3_readSum_72 (fun _ s4 => ?_)
      exact zv_sub [1, 2, 0, 4] rfl (b_X3_readSum_75 hX hT hq_X3_readAtom hk_9 v1 w0 v4 s4)
def f_X3_readSum_38 (q_X3_readAtom : Int32 → zS → Option (Int32 × zS)) (kb_9 : Int32 → Int32 → Int32 → Int32 → zS → Option (Int32 × zS)) (v1 : Int32) (v3 : Int32) (v4 : Int32) (s : zS) : Option (Int32 × zS) :=
  (zr_i s 40 (s.1 30 5)).bind fun x5 =>
  if ¬ x5 = (nI 1104) then
  (f_X3_readSum_58 q_X3_readAtom kb_9 v1 v3 v4 (0 : Int32) s)
  else
  f_X3_readSum_58 q_X3_readAtom kb_9 v1 v3 v4 (1 : Int32) s
set_option maxRecDepth 20000 in
theorem b_X3_readSum_38 {X : zX} {dd : Nat} {q_X3_readAtom : Int32 → zS → Option (Int32 × zS)} {kb_9 : Int32 → Int32 → Int32 → Int32 → zS → Option (Int32 × zS)} (hX : zx_ok X cX3_readSum RX3 5) (hT : zx_rt X (some .boolean) (zR (1 + dd + 1) (21 + (dd + 1) * 24))) (hq_X3_readAtom : ∀ (v1 : Int32) (s : zS), zM (zx_Y X) yX3_readAtom cX3_readAtom 3 (some .boolean) (zR (1 + dd) (21 + dd * 24)) [.ref (zx_ad X 30), .int v1] s zrI (q_X3_readAtom v1 s)) (hk_9 : ∀ (v1 : Int32) (v2 : Int32) (v3 : Int32) (v4 : Int32) (s : zS), zV X (zq X zrI) 5 9 [(0, .ref (zx_ad X 30)), (1, .int v1), (2, .int v2), (3, .int v3), (4, .int v4)] [] s (kb_9 v1 v2 v3 v4 s)) : ∀ (v1 : Int32) (v3 : Int32) (v4 : Int32) (s : zS), zV X (zq X zrI) 5 38 [(0, .ref (zx_ad X 30)), (1, .int v1), (3, .int v3), (4, .int v4)] [] s (f_X3_readSum_38 q_X3_readAtom kb_9 v1 v3 v4 s) := by
  have hDP : zDP = 64 := rfl
  intro v1 v3 v4 s
  unfold f_X3_readSum_38
  refine zv_aload_n hX dX3_readSum_38 0 rfl ?_
  refine zv_geta hX wf_X3_22 wc_3 zd_30 zj_30_3 c9_3 zr_30_3 (by decide) dX3_readSum_39 ?_
  refine zv_aload_n hX dX3_readSum_42 0 rfl ?_
  refine zv_geti hX wf_X3_39 wc_3 zd_30 zj_30_5 c9_3 zr_30_5 dX3_readSum_43 ?_
  refine zv_iald hX dX3_readSum_46 (fun x5 => ?_)
  refine zv_sipush (v := (nI 1104)) hX dX3_readSum_47 zi_s_1104 ?_
  refine zv_icmp_ne (tgt := 57) hX dX3_readSum_50 rfl ?_ ?_
  · refine zv_iconst (v := (0 : Int32)) hX dX3_readSum_57 zi_i_0 ?_
    exact b_X3_readSum_58 hX hT hq_X3_readAtom hk_9 v1 v3 v4 (0 : Int32) s
  · refine zv_iconst (v := (1 : Int32)) hX dX3_readSum_53 zi_i_1 ?_
    refine zv_goto (tgt := 58) hX dX3_readSum_54 rfl ?_
    exact b_X3_readSum_58 hX hT hq_X3_readAtom hk_9 v1 v3 v4 (1 : Int32) s
def f_X3_readSum_9 (q_X3_readAtom : Int32 → zS → Option (Int32 × zS)) : Nat → Int32 → Int32 → Int32 → Int32 → zS → Option (Int32 × zS)
  | 0, _, _, _, _, _ => none
  | n + 1, v1, v2, v3, v4, s =>
    if (nI 900) ≤ v4 then
    (zbd (f_X3_refuse (nI 2) s) fun r6 s7 =>
    if r6 = 0 ∨ r6 = 1 then some (r6, s7) else none)
    else
    zbd (q_X3_readAtom v1 s) fun r8 s9 =>
    if ¬ r8 = 0 then
    (if v2 = 0 then
    (f_X3_readSum_38 q_X3_readAtom (f_X3_readSum_9 q_X3_readAtom n) v1 v3 v4 s9)
    else
    zbd (f_X3_emit (nI 1104) s9) fun _ s10 =>
    f_X3_readSum_38 q_X3_readAtom (f_X3_readSum_9 q_X3_readAtom n) v1 v3 v4 s10)
    else
    some ((0 : Int32), s9)
set_option maxRecDepth 20000 in
theorem b_X3_readSum_9 {X : zX} {dd : Nat} {q_X3_readAtom : Int32 → zS → Option (Int32 × zS)} (hX : zx_ok X cX3_readSum RX3 5) (hT : zx_rt X (some .boolean) (zR (1 + dd + 1) (21 + (dd + 1) * 24))) (hq_X3_readAtom : ∀ (v1 : Int32) (s : zS), zM (zx_Y X) yX3_readAtom cX3_readAtom 3 (some .boolean) (zR (1 + dd) (21 + dd * 24)) [.ref (zx_ad X 30), .int v1] s zrI (q_X3_readAtom v1 s)) : ∀ (n : Nat) (v1 : Int32) (v2 : Int32) (v3 : Int32) (v4 : Int32) (s : zS), zV X (zq X zrI) 5 9 [(0, .ref (zx_ad X 30)), (1, .int v1), (2, .int v2), (3, .int v3), (4, .int v4)] [] s (f_X3_readSum_9 q_X3_readAtom n v1 v2 v3 v4 s) := by
  have hDP : zDP = 64 := rfl
  intro n
  induction n with
  | zero => intro v1 v2 v3 v4 s; exact zv_none
  | succ n ih =>
    intro v1 v2 v3 v4 s
    rw [f_X3_readSum_9]
    refine zv_iload hX dX3_readSum_9 4 rfl ?_
    refine zv_sipush (v := (nI 900)) hX dX3_readSum_11 zi_s_900 ?_
    refine zv_icmp_ge (tgt := 111) hX dX3_readSum_14 rfl ?_ ?_
    · refine zv_aload_n hX dX3_readSum_111 0 rfl ?_
      refine zv_iconst (v := (nI 2)) hX dX3_readSum_112 zi_i_2 ?_
      refine zv_cVI [.int (nI 2)] (rest := []) hX hT.2.2.2.2 (c_X3_refuse (zx_Y X) (nI 2) s) wv_X3_refuse c9_3 zd_30 wm_X3_94 rfl (by omega) (by omega) rfl (Nat.le_of_ble_eq_true rfl) dX3_readSum_113 (fun r6 s7 => ?_)
      exact zv_iretzB hX hT dX3_readSum_116
    · refine zv_aload_n hX dX3_readSum_17 0 rfl ?_
      refine zv_iload_n hX dX3_readSum_18 1 rfl ?_
      refine zv_cVI [.int v1] (rest := []) hX hT.2.2.2.2 (hq_X3_readAtom v1 s) wv_X3_readAtom c9_3 zd_30 wm_X3_177 rfl (by omega) (by omega) rfl (Nat.le_of_ble_eq_true rfl) dX3_readSum_19 (fun r8 s9 => ?_)
      refine zv_if_ne (tgt := 27) hX dX3_readSum_22 rfl ?_ ?_
      · refine zv_iload_n hX dX3_readSum_27 2 rfl ?_
        refine zv_if_eq (tgt := 38) hX dX3_readSum_28 rfl ?_ ?_
        · exact zv_sub [0, 1, 3, 4] rfl (b_X3_readSum_38 hX hT hq_X3_readAtom ih v1 v3 v4 s9)
        · refine zv_aload_n hX dX3_readSum_31 0 rfl ?_
          refine zv_sipush (v := (nI 1104)) hX dX3_readSum_32 zi_s_1104 ?_
          refine zv_cVV [.int (nI 1104)] (rest := []) hX hT.2.2.2.2 (c_X3_emit (zx_Y X) (nI 1104) s9) wv_X3_emit c9_3 zd_30 wm_X3_174 rfl (by omega) (by omega) rfl (Nat.le_of_ble_eq_true rfl) dX3_readSum_35 (fun _ s10 => ?_)
          exact zv_sub [0, 1, 3, 4] rfl (b_X3_readSum_38 hX hT hq_X3_readAtom ih v1 v3 v4 s10)
      · refine zv_iconst (v := (0 : Int32)) hX dX3_readSum_25 zi_i_0 ?_
        exact zv_iretz hX hT (by decide) dX3_readSum_26
def g_X3_readSum (q_X3_readAtom : Int32 → zS → Option (Int32 × zS)) (v1 : Int32) (s : zS) : Option (Int32 × zS) :=
  f_X3_readSum_9 q_X3_readAtom zFU v1 (0 : Int32) (nI 1000) (0 : Int32) s
set_option maxRecDepth 20000 in
theorem e_X3_readSum {X : zX} {dd : Nat} {q_X3_readAtom : Int32 → zS → Option (Int32 × zS)} (hX : zx_ok X cX3_readSum RX3 5) (hT : zx_rt X (some .boolean) (zR (1 + dd + 1) (21 + (dd + 1) * 24))) (hq_X3_readAtom : ∀ (v1 : Int32) (s : zS), zM (zx_Y X) yX3_readAtom cX3_readAtom 3 (some .boolean) (zR (1 + dd) (21 + dd * 24)) [.ref (zx_ad X 30), .int v1] s zrI (q_X3_readAtom v1 s)) : ∀ (v1 : Int32) (s : zS), zV X (zq X zrI) 5 0 [(0, .ref (zx_ad X 30)), (1, .int v1)] [] s (g_X3_readSum q_X3_readAtom v1 s) := by
  have hDP : zDP = 64 := rfl
  intro v1 s
  unfold g_X3_readSum
  refine zv_iconst (v := (0 : Int32)) hX dX3_readSum_0 zi_i_0 ?_
  refine zv_istore_n (lv' := [(2, .int (0 : Int32)), (0, .ref (zx_ad X 30)), (1, .int v1)]) hX dX3_readSum_1 (by decide) rfl ?_
  refine zv_sipush (v := (nI 1000)) hX dX3_readSum_2 zi_s_1000 ?_
  refine zv_istore_n (lv' := [(3, .int (nI 1000)), (2, .int (0 : Int32)), (0, .ref (zx_ad X 30)), (1, .int v1)]) hX dX3_readSum_5 (by decide) rfl ?_
  refine zv_iconst (v := (0 : Int32)) hX dX3_readSum_6 zi_i_0 ?_
  refine zv_istore (lv' := [(4, .int (0 : Int32)), (3, .int (nI 1000)), (2, .int (0 : Int32)), (0, .ref (zx_ad X 30)), (1, .int v1)]) hX dX3_readSum_7 (by decide) rfl ?_
  exact zv_sub [3, 4, 2, 1, 0] rfl (b_X3_readSum_9 hX hT hq_X3_readAtom zFU v1 (0 : Int32) (nI 1000) (0 : Int32) s)
def gg_X3_readAtom : Nat → (Int32 → zS → Option (Int32 × zS)) × (Int32 → zS → Option (Int32 × zS))
  | 0 => (fun _ _ => none, fun _ _ => none)
  | d + 1 => (g_X3_readAtom ((gg_X3_readAtom d).2), g_X3_readSum ((gg_X3_readAtom d).1))
def f_X3_readAtom (d : Nat) (v1 : Int32) (s : zS) : Option (Int32 × zS) := (gg_X3_readAtom d).1 v1 s
def f_X3_readSum (d : Nat) (v1 : Int32) (s : zS) : Option (Int32 × zS) := (gg_X3_readAtom d).2 v1 s
theorem cc_X3_readAtom (Y : zG) : ∀ (d : Nat), (∀ (v1 : Int32) (s : zS), zM Y yX3_readAtom cX3_readAtom 3 (some .boolean) (zR (1 + d) (21 + d * 24)) [.ref (zy_a Y 30), .int v1] s zrI (f_X3_readAtom d v1 s)) ∧ (∀ (v1 : Int32) (s : zS), zM Y yX3_readSum cX3_readSum 5 (some .boolean) (zR (1 + d) (21 + d * 24)) [.ref (zy_a Y 30), .int v1] s zrI (f_X3_readSum d v1 s)) := by
  intro d
  induction d with
  | zero => exact ⟨fun v1 s rr h => (by simp [f_X3_readAtom, gg_X3_readAtom] at h), fun v1 s rr h => (by simp [f_X3_readSum, gg_X3_readAtom] at h)⟩
  | succ d ih =>
    refine ⟨?_, ?_⟩
    · intro v1 s
      refine zm_start (by decide +kernel) (Nat.le_of_ble_eq_true rfl) ?_
      intro X hY hT hX
      subst hY
      have hX : zx_ok X cX3_readAtom RX3 3 := hX
      exact e_X3_readAtom (dd := d) hX hT ih.2 v1 s
    · intro v1 s
      refine zm_start (by decide +kernel) (Nat.le_of_ble_eq_true rfl) ?_
      intro X hY hT hX
      subst hY
      have hX : zx_ok X cX3_readSum RX3 5 := hX
      exact e_X3_readSum (dd := d) hX hT ih.1 v1 s
theorem c_X3_readAtom (Y : zG) (d : Nat) (v1 : Int32) (s : zS) : zM Y yX3_readAtom cX3_readAtom 3 (some .boolean) (zR (1 + d) (21 + d * 24)) [.ref (zy_a Y 30), .int v1] s zrI (f_X3_readAtom d v1 s) := (cc_X3_readAtom Y d).1 v1 s
theorem c_X3_readSum (Y : zG) (d : Nat) (v1 : Int32) (s : zS) : zM Y yX3_readSum cX3_readSum 5 (some .boolean) (zR (1 + d) (21 + d * 24)) [.ref (zy_a Y 30), .int v1] s zrI (f_X3_readSum d v1 s) := (cc_X3_readAtom Y d).2 v1 s
