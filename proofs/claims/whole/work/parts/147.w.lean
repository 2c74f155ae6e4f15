theorem dX8_readFlag_0 : decode cX8_readFlag 0 = .ok (.aload_n 0, 1) := by decide +kernel
theorem dX8_readFlag_1 : decode cX8_readFlag 1 = .ok (.iconst 3, 1) := by decide +kernel
theorem dX8_readFlag_2 : decode cX8_readFlag 2 = .ok (.invokevirtual 173, 3) := by decide +kernel
theorem dX8_readFlag_5 : decode cX8_readFlag 5 = .ok (.ifCond .eq 22, 3) := by decide +kernel
theorem dX8_readFlag_8 : decode cX8_readFlag 8 = .ok (.aload_n 0, 1) := by decide +kernel
theorem dX8_readFlag_9 : decode cX8_readFlag 9 = .ok (.getfield 24, 3) := by decide +kernel
theorem dX8_readFlag_12 : decode cX8_readFlag 12 = .ok (.bipush 36, 2) := by decide +kernel
theorem dX8_readFlag_14 : decode cX8_readFlag 14 = .ok (.iload_n 1, 1) := by decide +kernel
theorem dX8_readFlag_15 : decode cX8_readFlag 15 = .ok (.iadd, 1) := by decide +kernel
theorem dX8_readFlag_16 : decode cX8_readFlag 16 = .ok (.aload_n 0, 1) := by decide +kernel
theorem dX8_readFlag_17 : decode cX8_readFlag 17 = .ok (.iconst 0, 1) := by decide +kernel
theorem dX8_readFlag_18 : decode cX8_readFlag 18 = .ok (.bipush 9, 2) := by decide +kernel
theorem dX8_readFlag_20 : decode cX8_readFlag 20 = .ok (.invokevirtual 191, 3) := by decide +kernel
theorem dX8_readFlag_23 : decode cX8_readFlag 23 = .ok (.iastore, 1) := by decide +kernel
theorem dX8_readFlag_24 : decode cX8_readFlag 24 = .ok (.goto 59, 3) := by decide +kernel
theorem dX8_readFlag_27 : decode cX8_readFlag 27 = .ok (.aload_n 0, 1) := by decide +kernel
theorem dX8_readFlag_28 : decode cX8_readFlag 28 = .ok (.iconst 4, 1) := by decide +kernel
theorem dX8_readFlag_29 : decode cX8_readFlag 29 = .ok (.invokevirtual 173, 3) := by decide +kernel
theorem dX8_readFlag_32 : decode cX8_readFlag 32 = .ok (.ifCond .eq 22, 3) := by decide +kernel
theorem dX8_readFlag_35 : decode cX8_readFlag 35 = .ok (.aload_n 0, 1) := by decide +kernel
theorem dX8_readFlag_36 : decode cX8_readFlag 36 = .ok (.getfield 24, 3) := by decide +kernel
theorem dX8_readFlag_39 : decode cX8_readFlag 39 = .ok (.bipush 8, 2) := by decide +kernel
theorem dX8_readFlag_41 : decode cX8_readFlag 41 = .ok (.iload_n 1, 1) := by decide +kernel
theorem dX8_readFlag_42 : decode cX8_readFlag 42 = .ok (.iadd, 1) := by decide +kernel
theorem dX8_readFlag_43 : decode cX8_readFlag 43 = .ok (.aload_n 0, 1) := by decide +kernel
theorem dX8_readFlag_44 : decode cX8_readFlag 44 = .ok (.iconst 0, 1) := by decide +kernel
theorem dX8_readFlag_45 : decode cX8_readFlag 45 = .ok (.bipush 10, 2) := by decide +kernel
theorem dX8_readFlag_47 : decode cX8_readFlag 47 = .ok (.invokevirtual 191, 3) := by decide +kernel
theorem dX8_readFlag_50 : decode cX8_readFlag 50 = .ok (.iastore, 1) := by decide +kernel
theorem dX8_readFlag_51 : decode cX8_readFlag 51 = .ok (.goto 32, 3) := by decide +kernel
theorem dX8_readFlag_54 : decode cX8_readFlag 54 = .ok (.aload_n 0, 1) := by decide +kernel
theorem dX8_readFlag_55 : decode cX8_readFlag 55 = .ok (.iconst 5, 1) := by decide +kernel
theorem dX8_readFlag_56 : decode cX8_readFlag 56 = .ok (.invokevirtual 173, 3) := by decide +kernel
theorem dX8_readFlag_59 : decode cX8_readFlag 59 = .ok (.ifCond .eq 22, 3) := by decide +kernel
theorem dX8_readFlag_62 : decode cX8_readFlag 62 = .ok (.aload_n 0, 1) := by decide +kernel
theorem dX8_readFlag_63 : decode cX8_readFlag 63 = .ok (.getfield 24, 3) := by decide +kernel
theorem dX8_readFlag_66 : decode cX8_readFlag 66 = .ok (.bipush 15, 2) := by decide +kernel
theorem dX8_readFlag_68 : decode cX8_readFlag 68 = .ok (.iload_n 1, 1) := by decide +kernel
theorem dX8_readFlag_69 : decode cX8_readFlag 69 = .ok (.iadd, 1) := by decide +kernel
theorem dX8_readFlag_70 : decode cX8_readFlag 70 = .ok (.aload_n 0, 1) := by decide +kernel
theorem dX8_readFlag_71 : decode cX8_readFlag 71 = .ok (.iconst 0, 1) := by decide +kernel
theorem dX8_readFlag_72 : decode cX8_readFlag 72 = .ok (.bipush 9, 2) := by decide +kernel
theorem dX8_readFlag_74 : decode cX8_readFlag 74 = .ok (.invokevirtual 191, 3) := by decide +kernel
theorem dX8_readFlag_77 : decode cX8_readFlag 77 = .ok (.iastore, 1) := by decide +kernel
theorem dX8_readFlag_78 : decode cX8_readFlag 78 = .ok (.goto 5, 3) := by decide +kernel
theorem dX8_readFlag_81 : decode cX8_readFlag 81 = .ok (.iconst 0, 1) := by decide +kernel
theorem dX8_readFlag_82 : decode cX8_readFlag 82 = .ok (.ireturn, 1) := by decide +kernel
theorem dX8_readFlag_83 : decode cX8_readFlag 83 = .ok (.aload_n 0, 1) := by decide +kernel
theorem dX8_readFlag_84 : decode cX8_readFlag 84 = .ok (.getfield 138, 3) := by decide +kernel
theorem dX8_readFlag_87 : decode cX8_readFlag 87 = .ok (.ifCond .ne 7, 3) := by decide +kernel
theorem dX8_readFlag_90 : decode cX8_readFlag 90 = .ok (.iconst 1, 1) := by decide +kernel
theorem dX8_readFlag_91 : decode cX8_readFlag 91 = .ok (.goto 4, 3) := by decide +kernel
theorem dX8_readFlag_94 : decode cX8_readFlag 94 = .ok (.iconst 0, 1) := by decide +kernel
theorem dX8_readFlag_95 : decode cX8_readFlag 95 = .ok (.ireturn, 1) := by decide +kernel
def f_X8_readFlag_95 (w0 : Int32) (s : zS) : Option (Int32 × zS) :=
  if w0 = 0 ∨ w0 = 1 then some (w0, s) else none
set_option maxRecDepth 20000 in
theorem b_X8_readFlag_95 {X : zX} (hX : zx_ok X cX8_readFlag RX8 2) (hT : zx_rt X (some .boolean) (zR 7 152)) : ∀ (w0 : Int32) (s : zS), zV X (zq X zrI) 2 95 [] [.int w0] s (f_X8_readFlag_95 w0 s) := by
  intro w0 s
  unfold f_X8_readFlag_95
  exact zv_iretzB hX hT dX8_readFlag_95
def f_X8_readFlag_83  (s : zS) : Option (Int32 × zS) :=
  if ¬ (s.1 76 11) = 0 then
  (f_X8_readFlag_95 (0 : Int32) s)
  else
  f_X8_readFlag_95 (1 : Int32) s
set_option maxRecDepth 20000 in
theorem b_X8_readFlag_83 {X : zX} (hX : zx_ok X cX8_readFlag RX8 2) (hT : zx_rt X (some .boolean) (zR 7 152)) : ∀  (s : zS), zV X (zq X zrI) 2 83 [(0, .ref (zx_ad X 76))] [] s (f_X8_readFlag_83  s) := by
  intro  s
  unfold f_X8_readFlag_83
  refine zv_aload_n hX dX8_readFlag_83 0 rfl ?_
  refine zv_geti hX wf_X8_138 wc_8 zd_76 zj_76_11 c9_8 zr_76_11 dX8_readFlag_84 ?_
  refine zv_if_ne (tgt := 94) hX dX8_readFlag_87 rfl ?_ ?_
  · refine zv_iconst (v := (0 : Int32)) hX dX8_readFlag_94 zi_i_0 ?_
    exact zv_sub [] rfl (b_X8_readFlag_95 hX hT (0 : Int32) s)
  · refine zv_iconst (v := (1 : Int32)) hX dX8_readFlag_90 zi_i_1 ?_
    refine zv_goto (tgt := 95) hX dX8_readFlag_91 rfl ?_
    exact zv_sub [] rfl (b_X8_readFlag_95 hX hT (1 : Int32) s)
def f_X8_readFlag (v1 : Int32) (s : zS) : Option (Int32 × zS) :=
  zbd (f_X8_eats (nI 3) s) fun r1 s2 =>
  if r1 = 0 then
  (zbd (f_X8_eats (nI 4) s2) fun r3 s4 =>
  if r3 = 0 then
  (zbd (f_X8_eats (nI 5) s4) fun r5 s6 =>
  if r5 = 0 then
  (some ((0 : Int32), s6))
  else
  zbd (f_X8_takes (0 : Int32) (nI 9) s6) fun r7 s8 =>
  (zw_i s8 80 ((nI 15) + v1) r7).bind fun s9 =>
  f_X8_readFlag_83 s9)
  else
  zbd (f_X8_takes (0 : Int32) (nI 10) s4) fun r10 s11 =>
  (zw_i s11 80 ((nI 8) + v1) r10).bind fun s12 =>
  f_X8_readFlag_83 s12)
  else
  zbd (f_X8_takes (0 : Int32) (nI 9) s2) fun r13 s14 =>
  (zw_i s14 80 ((nI 36) + v1) r13).bind fun s15 =>
  f_X8_readFlag_83 s15
set_option maxRecDepth 20000 in
theorem c_X8_readFlag (Y : zG) (v1 : Int32) (s : zS) : zM Y yX8_readFlag cX8_readFlag 2 (some .boolean) (zR 7 152) [.ref (zy_a Y 76), .int v1] s zrI (f_X8_readFlag v1 s) := by
  refine zm_start (by decide +kernel) (Nat.le_of_ble_eq_true rfl) ?_
  intro X hY hT hX
  subst hY
  have hX : zx_ok X cX8_readFlag RX8 2 := hX
  show zV X (zq X zrI) 2 0 [(0, .ref (zx_ad X 76)), (1, .int v1)] [] s _
  unfold f_X8_readFlag
  refine zv_aload_n hX dX8_readFlag_0 0 rfl ?_
  refine zv_iconst (v := (nI 3)) hX dX8_readFlag_1 zi_i_3 ?_
  refine zv_cVI [.int (nI 3)] (rest := []) hX hT.2.2.2.2 (c_X8_eats (zx_Y X) (nI 3) s) wv_X8_eats c9_8 zd_76 wm_X8_173 rfl (Nat.le_of_ble_eq_true rfl) (Nat.le_of_ble_eq_true rfl) rfl (Nat.le_of_ble_eq_true rfl) dX8_readFlag_2 (fun r1 s2 => ?_)
  refine zv_if_eq (tgt := 27) hX dX8_readFlag_5 rfl ?_ ?_
  · refine zv_aload_n hX dX8_readFlag_27 0 rfl ?_
    refine zv_iconst (v := (nI 4)) hX dX8_readFlag_28 zi_i_4 ?_
    refine zv_cVI [.int (nI 4)] (rest := []) hX hT.2.2.2.2 (c_X8_eats (zx_Y X) (nI 4) s2) wv_X8_eats c9_8 zd_76 wm_X8_173 rfl (Nat.le_of_ble_eq_true rfl) (Nat.le_of_ble_eq_true rfl) rfl (Nat.le_of_ble_eq_true rfl) dX8_readFlag_29 (fun r3 s4 => ?_)
    refine zv_if_eq (tgt := 54) hX dX8_readFlag_32 rfl ?_ ?_
    · refine zv_aload_n hX dX8_readFlag_54 0 rfl ?_
      refine zv_iconst (v := (nI 5)) hX dX8_readFlag_55 zi_i_5 ?_
      refine zv_cVI [.int (nI 5)] (rest := []) hX hT.2.2.2.2 (c_X8_eats (zx_Y X) (nI 5) s4) wv_X8_eats c9_8 zd_76 wm_X8_173 rfl (Nat.le_of_ble_eq_true rfl) (Nat.le_of_ble_eq_true rfl) rfl (Nat.le_of_ble_eq_true rfl) dX8_readFlag_56 (fun r5 s6 => ?_)
      refine zv_if_eq (tgt := 81) hX dX8_readFlag_59 rfl ?_ ?_
      · refine zv_iconst (v := (0 : Int32)) hX dX8_readFlag_81 zi_i_0 ?_
        exact zv_iretz hX hT (by decide) dX8_readFlag_82
      · refine zv_aload_n hX dX8_readFlag_62 0 rfl ?_
        refine zv_geta hX wf_X8_24 wc_8 zd_76 zj_76_4 c9_8 zr_76_4 (by decide) dX8_readFlag_63 ?_
        refine zv_bipush (v := (nI 15)) hX dX8_readFlag_66 zi_b_15 ?_
        refine zv_iload_n hX dX8_readFlag_68 1 rfl ?_
        refine zv_iadd hX dX8_readFlag_69 ?_
        refine zv_aload_n hX dX8_readFlag_70 0 rfl ?_
        refine zv_iconst (v := (0 : Int32)) hX dX8_readFlag_71 zi_i_0 ?_
        refine zv_bipush (v := (nI 9)) hX dX8_readFlag_72 zi_b_9 ?_
        refine zv_cVI [.int (0 : Int32), .int (nI 9)] (rest := [.int ((nI 15) + v1), .ref (zx_ad X 80)]) hX hT.2.2.2.2 (c_X8_takes (zx_Y X) (0 : Int32) (nI 9) s6) wv_X8_takes c9_8 zd_76 wm_X8_191 rfl (Nat.le_of_ble_eq_true rfl) (Nat.le_of_ble_eq_true rfl) rfl (Nat.le_of_ble_eq_true rfl) dX8_readFlag_74 (fun r7 s8 => ?_)
        refine zv_iast hX dX8_readFlag_77 (fun s9 => ?_)
        refine zv_goto (tgt := 83) hX dX8_readFlag_78 rfl ?_
        exact zv_sub [0] rfl (b_X8_readFlag_83 hX hT  s9)
    · refine zv_aload_n hX dX8_readFlag_35 0 rfl ?_
      refine zv_geta hX wf_X8_24 wc_8 zd_76 zj_76_4 c9_8 zr_76_4 (by decide) dX8_readFlag_36 ?_
      refine zv_bipush (v := (nI 8)) hX dX8_readFlag_39 zi_b_8 ?_
      refine zv_iload_n hX dX8_readFlag_41 1 rfl ?_
      refine zv_iadd hX dX8_readFlag_42 ?_
      refine zv_aload_n hX dX8_readFlag_43 0 rfl ?_
      refine zv_iconst (v := (0 : Int32)) hX dX8_readFlag_44 zi_i_0 ?_
      refine zv_bipush (v := (nI 10)) hX dX8_readFlag_45 zi_b_10 ?_
      refine zv_cVI [.int (0 : Int32), .int (nI 10)] (rest := [.int ((nI 8) + v1), .ref (zx_ad X 80)]) hX hT.2.2.2.2 (c_X8_takes (zx_Y X) (0 : Int32) (nI 10) s4) wv_X8_takes c9_8 zd_76 wm_X8_191 rfl (Nat.le_of_ble_eq_true rfl) (Nat.le_of_ble_eq_true rfl) rfl (Nat.le_of_ble_eq_true rfl) dX8_readFlag_47 (fun r10 s11 => ?_)
      refine zv_iast hX dX8_readFlag_50 (fun s12 => ?_)
      refine zv_goto (tgt := 83) hX dX8_readFlag_51 rfl ?_
      exact zv_sub [0] rfl (b_X8_readFlag_83 hX hT  s12)
  · refine zv_aload_n hX dX8_readFlag_8 0 rfl ?_
    refine zv_geta hX wf_X8_24 wc_8 zd_76 zj_76_4 c9_8 zr_76_4 (by decide) dX8_readFlag_9 ?_
    refine zv_bipush (v := (nI 36)) hX dX8_readFlag_12 zi_b_36 ?_
    refine zv_iload_n hX dX8_readFlag_14 1 rfl ?_
    refine zv_iadd hX dX8_readFlag_15 ?_
    refine zv_aload_n hX dX8_readFlag_16 0 rfl ?_
    refine zv_iconst (v := (0 : Int32)) hX dX8_readFlag_17 zi_i_0 ?_
    refine zv_bipush (v := (nI 9)) hX dX8_readFlag_18 zi_b_9 ?_
    refine zv_cVI [.int (0 : Int32), .int (nI 9)] (rest := [.int ((nI 36) + v1), .ref (zx_ad X 80)]) hX hT.2.2.2.2 (c_X8_takes (zx_Y X) (0 : Int32) (nI 9) s2) wv_X8_takes c9_8 zd_76 wm_X8_191 rfl (Nat.le_of_ble_eq_true rfl) (Nat.le_of_ble_eq_true rfl) rfl (Nat.le_of_ble_eq_true rfl) dX8_readFlag_20 (fun r13 s14 => ?_)
    refine zv_iast hX dX8_readFlag_23 (fun s15 => ?_)
    refine zv_goto (tgt := 83) hX dX8_readFlag_24 rfl ?_
    exact zv_sub [0] rfl (b_X8_readFlag_83 hX hT  s15)
theorem dX8_readLaw_0 : decode cX8_readLaw 0 = .ok (.aload_n 0, 1) := by decide +kernel
theorem dX8_readLaw_1 : decode cX8_readLaw 1 = .ok (.invokevirtual 147, 3) := by decide +kernel
theorem dX8_readLaw_4 : decode cX8_readLaw 4 = .ok (.aload_n 0, 1) := by decide +kernel
theorem dX8_readLaw_5 : decode cX8_readLaw 5 = .ok (.bipush 31, 2) := by decide +kernel
theorem dX8_readLaw_7 : decode cX8_readLaw 7 = .ok (.invokevirtual 173, 3) := by decide +kernel
theorem dX8_readLaw_10 : decode cX8_readLaw 10 = .ok (.ifCond .ne 8, 3) := by decide +kernel
theorem dX8_readLaw_13 : decode cX8_readLaw 13 = .ok (.aload_n 0, 1) := by decide +kernel
theorem dX8_readLaw_14 : decode cX8_readLaw 14 = .ok (.iconst 2, 1) := by decide +kernel
theorem dX8_readLaw_15 : decode cX8_readLaw 15 = .ok (.invokevirtual 150, 3) := by decide +kernel
theorem dX8_readLaw_18 : decode cX8_readLaw 18 = .ok (.aload_n 0, 1) := by decide +kernel
theorem dX8_readLaw_19 : decode cX8_readLaw 19 = .ok (.getfield 24, 3) := by decide +kernel
theorem dX8_readLaw_22 : decode cX8_readLaw 22 = .ok (.sipush 254, 3) := by decide +kernel
theorem dX8_readLaw_25 : decode cX8_readLaw 25 = .ok (.iaload, 1) := by decide +kernel
theorem dX8_readLaw_26 : decode cX8_readLaw 26 = .ok (.istore_n 2, 1) := by decide +kernel
theorem dX8_readLaw_27 : decode cX8_readLaw 27 = .ok (.aload_n 0, 1) := by decide +kernel
theorem dX8_readLaw_28 : decode cX8_readLaw 28 = .ok (.iload_n 1, 1) := by decide +kernel
theorem dX8_readLaw_29 : decode cX8_readLaw 29 = .ok (.putfield 158, 3) := by decide +kernel
theorem dX8_readLaw_32 : decode cX8_readLaw 32 = .ok (.iload_n 1, 1) := by decide +kernel
theorem dX8_readLaw_33 : decode cX8_readLaw 33 = .ok (.iconst 1, 1) := by decide +kernel
theorem dX8_readLaw_34 : decode cX8_readLaw 34 = .ok (.if_icmp .ne 11, 3) := by decide +kernel
theorem dX8_readLaw_37 : decode cX8_readLaw 37 = .ok (.aload_n 0, 1) := by decide +kernel
theorem dX8_readLaw_38 : decode cX8_readLaw 38 = .ok (.iconst 0, 1) := by decide +kernel
theorem dX8_readLaw_39 : decode cX8_readLaw 39 = .ok (.invokevirtual 170, 3) := by decide +kernel
theorem dX8_readLaw_42 : decode cX8_readLaw 42 = .ok (.goto 8, 3) := by decide +kernel
theorem dX8_readLaw_45 : decode cX8_readLaw 45 = .ok (.aload_n 0, 1) := by decide +kernel
theorem dX8_readLaw_46 : decode cX8_readLaw 46 = .ok (.iconst 0, 1) := by decide +kernel
theorem dX8_readLaw_47 : decode cX8_readLaw 47 = .ok (.invokevirtual 185, 3) := by decide +kernel
theorem dX8_readLaw_50 : decode cX8_readLaw 50 = .ok (.aload_n 0, 1) := by decide +kernel
theorem dX8_readLaw_51 : decode cX8_readLaw 51 = .ok (.getfield 138, 3) := by decide +kernel
theorem dX8_readLaw_54 : decode cX8_readLaw 54 = .ok (.ifCond .eq 4, 3) := by decide +kernel
theorem dX8_readLaw_57 : decode cX8_readLaw 57 = .ok (.return_, 1) := by decide +kernel
theorem dX8_readLaw_58 : decode cX8_readLaw 58 = .ok (.aload_n 0, 1) := by decide +kernel
theorem dX8_readLaw_59 : decode cX8_readLaw 59 = .ok (.getfield 24, 3) := by decide +kernel
theorem dX8_readLaw_62 : decode cX8_readLaw 62 = .ok (.iconst 2, 1) := by decide +kernel
theorem dX8_readLaw_63 : decode cX8_readLaw 63 = .ok (.iload_n 1, 1) := by decide +kernel
theorem dX8_readLaw_64 : decode cX8_readLaw 64 = .ok (.iadd, 1) := by decide +kernel
theorem dX8_readLaw_65 : decode cX8_readLaw 65 = .ok (.iconst 1, 1) := by decide +kernel
theorem dX8_readLaw_66 : decode cX8_readLaw 66 = .ok (.iastore, 1) := by decide +kernel
theorem dX8_readLaw_67 : decode cX8_readLaw 67 = .ok (.aload_n 0, 1) := by decide +kernel
theorem dX8_readLaw_68 : decode cX8_readLaw 68 = .ok (.getfield 24, 3) := by decide +kernel
theorem dX8_readLaw_71 : decode cX8_readLaw 71 = .ok (.iconst 4, 1) := by decide +kernel
theorem dX8_readLaw_72 : decode cX8_readLaw 72 = .ok (.iload_n 1, 1) := by decide +kernel
theorem dX8_readLaw_73 : decode cX8_readLaw 73 = .ok (.iadd, 1) := by decide +kernel
theorem dX8_readLaw_74 : decode cX8_readLaw 74 = .ok (.iload_n 2, 1) := by decide +kernel
theorem dX8_readLaw_75 : decode cX8_readLaw 75 = .ok (.iastore, 1) := by decide +kernel
theorem dX8_readLaw_76 : decode cX8_readLaw 76 = .ok (.aload_n 0, 1) := by decide +kernel
theorem dX8_readLaw_77 : decode cX8_readLaw 77 = .ok (.getfield 24, 3) := by decide +kernel
theorem dX8_readLaw_80 : decode cX8_readLaw 80 = .ok (.bipush 6, 2) := by decide +kernel
theorem dX8_readLaw_82 : decode cX8_readLaw 82 = .ok (.iload_n 1, 1) := by decide +kernel
theorem dX8_readLaw_83 : decode cX8_readLaw 83 = .ok (.iadd, 1) := by decide +kernel
theorem dX8_readLaw_84 : decode cX8_readLaw 84 = .ok (.aload_n 0, 1) := by decide +kernel
theorem dX8_readLaw_85 : decode cX8_readLaw 85 = .ok (.getfield 24, 3) := by decide +kernel
theorem dX8_readLaw_88 : decode cX8_readLaw 88 = .ok (.sipush 254, 3) := by decide +kernel
theorem dX8_readLaw_91 : decode cX8_readLaw 91 = .ok (.iaload, 1) := by decide +kernel
theorem dX8_readLaw_92 : decode cX8_readLaw 92 = .ok (.iload_n 2, 1) := by decide +kernel
theorem dX8_readLaw_93 : decode cX8_readLaw 93 = .ok (.isub, 1) := by decide +kernel
theorem dX8_readLaw_94 : decode cX8_readLaw 94 = .ok (.iastore, 1) := by decide +kernel
theorem dX8_readLaw_95 : decode cX8_readLaw 95 = .ok (.return_, 1) := by decide +kernel
def f_X8_readLaw_50 (v1 : Int32) (v2 : Int32) (s : zS) : Option (Unit × zS) :=
  if (s.1 76 11) = 0 then
  ((zw_i s 80 ((nI 2) + v1) (1 : Int32)).bind fun s1 =>
  (zw_i s1 80 ((nI 4) + v1) v2).bind fun s2 =>
  (zr_i s2 80 (nI 254)).bind fun x3 =>
  (zw_i s2 80 ((nI 6) + v1) (x3 - v2)).bind fun s4 =>
  some ((), s4))
  else
  some ((), s)
set_option maxRecDepth 20000 in
theorem b_X8_readLaw_50 {X : zX} (hX : zx_ok X cX8_readLaw RX8 3) (hT : zx_rt X none (zR 137 3009)) : ∀ (v1 : Int32) (v2 : Int32) (s : zS), zV X (zq X zrV) 3 50 [(0, .ref (zx_ad X 76)), (1, .int v1), (2, .int v2)] [] s (f_X8_readLaw_50 v1 v2 s) := by
  intro v1 v2 s
  unfold f_X8_readLaw_50
  refine zv_aload_n hX dX8_readLaw_50 0 rfl ?_
  refine zv_geti hX wf_X8_138 wc_8 zd_76 zj_76_11 c9_8 zr_76_11 dX8_readLaw_51 ?_
  refine zv_if_eq (tgt := 58) hX dX8_readLaw_54 rfl ?_ ?_
  · refine zv_aload_n hX dX8_readLaw_58 0 rfl ?_
    refine zv_geta hX wf_X8_24 wc_8 zd_76 zj_76_4 c9_8 zr_76_4 (by decide) dX8_readLaw_59 ?_
    refine zv_iconst (v := (nI 2)) hX dX8_readLaw_62 zi_i_2 ?_
    refine zv_iload_n hX dX8_readLaw_63 1 rfl ?_
    refine zv_iadd hX dX8_readLaw_64 ?_
    refine zv_iconst (v := (1 : Int32)) hX dX8_readLaw_65 zi_i_1 ?_
    refine zv_iast hX dX8_readLaw_66 (fun s1 => ?_)
    refine zv_aload_n hX dX8_readLaw_67 0 rfl ?_
    refine zv_geta hX wf_X8_24 wc_8 zd_76 zj_76_4 c9_8 zr_76_4 (by decide) dX8_readLaw_68 ?_
    refine zv_iconst (v := (nI 4)) hX dX8_readLaw_71 zi_i_4 ?_
    refine zv_iload_n hX dX8_readLaw_72 1 rfl ?_
    refine zv_iadd hX dX8_readLaw_73 ?_
    refine zv_iload_n hX dX8_readLaw_74 2 rfl ?_
    refine zv_iast hX dX8_readLaw_75 (fun s2 => ?_)
    refine zv_aload_n hX dX8_readLaw_76 0 rfl ?_
    refine zv_geta hX wf_X8_24 wc_8 zd_76 zj_76_4 c9_8 zr_76_4 (by decide) dX8_readLaw_77 ?_
    refine zv_bipush (v := (nI 6)) hX dX8_readLaw_80 zi_b_6 ?_
    refine zv_iload_n hX dX8_readLaw_82 1 rfl ?_
    refine zv_iadd hX dX8_readLaw_83 ?_
    refine zv_aload_n hX dX8_readLaw_84 0 rfl ?_
    refine zv_geta hX wf_X8_24 wc_8 zd_76 zj_76_4 c9_8 zr_76_4 (by decide) dX8_readLaw_85 ?_
    refine zv_sipush (v := (nI 254)) hX dX8_readLaw_88 zi_s_254 ?_
    refine zv_iald hX dX8_readLaw_91 (fun x3 => ?_)
    refine zv_iload_n hX dX8_readLaw_92 2 rfl ?_
    refine zv_isub hX dX8_readLaw_93 ?_
    refine zv_iast hX dX8_readLaw_94 (fun s4 => ?_)
    exact zv_vret hX hT dX8_readLaw_95
  · exact zv_vret hX hT dX8_readLaw_57
def f_X8_readLaw_18 (v1 : Int32) (s : zS) : Option (Unit × zS) :=
  (zr_i s 80 (nI 254)).bind fun x5 =>
  zb (zs_i s 76 15 v1) fun s6 =>
  if ¬ v1 = (1 : Int32) then
  (zbd (f_X8_readTruth zDP (0 : Int32) s6) fun _ s7 =>
  f_X8_readLaw_50 v1 x5 s7)
  else
  zbd (f_X8_readSum zDP (0 : Int32) s6) fun _ s8 =>
  f_X8_readLaw_50 v1 x5 s8
set_option maxRecDepth 20000 in
theorem b_X8_readLaw_18 {X : zX} (hX : zx_ok X cX8_readLaw RX8 3) (hT : zx_rt X none (zR 137 3009)) : ∀ (v1 : Int32) (s : zS), zV X (zq X zrV) 3 18 [(0, .ref (zx_ad X 76)), (1, .int v1)] [] s (f_X8_readLaw_18 v1 s) := by
  intro v1 s
  unfold f_X8_readLaw_18
  refine zv_aload_n hX dX8_readLaw_18 0 rfl ?_
  refine zv_geta hX wf_X8_24 wc_8 zd_76 zj_76_4 c9_8 zr_76_4 (by decide) dX8_readLaw_19 ?_
  refine zv_sipush (v := (nI 254)) hX dX8_readLaw_22 zi_s_254 ?_
  refine zv_iald hX dX8_readLaw_25 (fun x5 => ?_)
  refine zv_istore_n (lv' := [(2, .int x5), (0, .ref (zx_ad X 76)), (1, .int v1)]) hX dX8_readLaw_26 (by decide) rfl ?_
  refine zv_aload_n hX dX8_readLaw_27 1 rfl ?_
  refine zv_iload_n hX dX8_readLaw_28 2 rfl ?_
  refine zv_puti hX wf_X8_158 wc_8 wk_8_15 zd_76 zj_76_15 c9_8 zr_76_15 dX8_readLaw_29 (fun s6 => ?_)
  refine zv_iload_n hX dX8_readLaw_32 2 rfl ?_
  refine zv_iconst (v := (1 : Int32)) hX dX8_readLaw_33 zi_i_1 ?_
  refine zv_icmp_ne (tgt := 45) hX dX8_readLaw_34 rfl ?_ ?_
  · refine zv_aload_n hX dX8_readLaw_45 1 rfl ?_
    refine zv_iconst (v := (0 : Int32)) hX dX8_readLaw_46 zi_i_0 ?_
    refine zv_cVV [.int (0 : Int32)] (rest := []) hX hT.2.2.2.2 (c_X8_readTruth (zx_Y X) zDP (0 : Int32) s6) wv_X8_readTruth c9_8 zd_76 wm_X8_185 rfl (Nat.le_of_ble_eq_true rfl) (Nat.le_of_ble_eq_true rfl) rfl (Nat.le_of_ble_eq_true rfl) dX8_readLaw_47 (fun _ s7 => ?_)
    exact zv_sub [1, 2, 0] rfl (b_X8_readLaw_50 hX hT v1 x5 s7)
  · refine zv_aload_n hX dX8_readLaw_37 1 rfl ?_
    refine zv_iconst (v := (0 : Int32)) hX dX8_readLaw_38 zi_i_0 ?_
    refine zv_cVV [.int (0 : Int32)] (rest := []) hX hT.2.2.2.2 (c_X8_readSum (zx_Y X) zDP (0 : Int32) s6) wv_X8_readSum c9_8 zd_76 wm_X8_170 rfl (Nat.le_of_ble_eq_true rfl) (Nat.le_of_ble_eq_true rfl) rfl (Nat.le_of_ble_eq_true rfl) dX8_readLaw_39 (fun _ s8 => ?_)
    refine zv_goto (tgt := 50) hX dX8_readLaw_42 rfl ?_
    exact zv_sub [1, 2, 0] rfl (b_X8_readLaw_50 hX hT v1 x5 s8)
def f_X8_readLaw (v1 : Int32) (s : zS) : Option (Unit × zS) :=
  zbd (f_X8_next s) fun _ s9 =>
  zbd (f_X8_eats (nI 31) s9) fun r10 s11 =>
  if ¬ r10 = 0 then
  (f_X8_readLaw_18 v1 s11)
  else
  zbd (f_X8_fails (nI 2) s11) fun _ s12 =>
  f_X8_readLaw_18 v1 s12
set_option maxRecDepth 20000 in
theorem c_X8_readLaw (Y : zG) (v1 : Int32) (s : zS) : zM Y yX8_readLaw cX8_readLaw 3 none (zR 137 3009) [.ref (zy_a Y 76), .int v1] s zrV (f_X8_readLaw v1 s) := by
  refine zm_start (by decide +kernel) (Nat.le_of_ble_eq_true rfl) ?_
  intro X hY hT hX
  subst hY
  have hX : zx_ok X cX8_readLaw RX8 3 := hX
  show zV X (zq X zrV) 3 0 [(0, .ref (zx_ad X 76)), (1, .int v1)] [] s _
  unfold f_X8_readLaw
  refine zv_aload_n hX dX8_readLaw_0 0 rfl ?_
  refine zv_cVV [] (rest := []) hX hT.2.2.2.2 (c_X8_next (zx_Y X) s) wv_X8_next c9_8 zd_76 wm_X8_147 rfl (Nat.le_of_ble_eq_true rfl) (Nat.le_of_ble_eq_true rfl) rfl (Nat.le_of_ble_eq_true rfl) dX8_readLaw_1 (fun _ s9 => ?_)
  refine zv_aload_n hX dX8_readLaw_4 0 rfl ?_
  refine zv_bipush (v := (nI 31)) hX dX8_readLaw_5 zi_b_31 ?_
  refine zv_cVI [.int (nI 31)] (rest := []) hX hT.2.2.2.2 (c_X8_eats (zx_Y X) (nI 31) s9) wv_X8_eats c9_8 zd_76 wm_X8_173 rfl (Nat.le_of_ble_eq_true rfl) (Nat.le_of_ble_eq_true rfl) rfl (Nat.le_of_ble_eq_true rfl) dX8_readLaw_7 (fun r10 s11 => ?_)
  refine zv_if_ne (tgt := 18) hX dX8_readLaw_10 rfl ?_ ?_
  · exact b_X8_readLaw_18 hX hT v1 s11
  · refine zv_aload_n hX dX8_readLaw_13 0 rfl ?_
    refine zv_iconst (v := (nI 2)) hX dX8_readLaw_14 zi_i_2 ?_
    refine zv_cVV [.int (nI 2)] (rest := []) hX hT.2.2.2.2 (c_X8_fails (zx_Y X) (nI 2) s11) wv_X8_fails c9_8 zd_76 wm_X8_150 rfl (Nat.le_of_ble_eq_true rfl) (Nat.le_of_ble_eq_true rfl) rfl (Nat.le_of_ble_eq_true rfl) dX8_readLaw_15 (fun _ s12 => ?_)
    exact b_X8_readLaw_18 hX hT v1 s12
theorem dX8_readPerson_0 : decode cX8_readPerson 0 = .ok (.aload_n 0, 1) := by decide +kernel
theorem dX8_readPerson_1 : decode cX8_readPerson 1 = .ok (.getfield 24, 3) := by decide +kernel
theorem dX8_readPerson_4 : decode cX8_readPerson 4 = .ok (.iconst 1, 1) := by decide +kernel
theorem dX8_readPerson_5 : decode cX8_readPerson 5 = .ok (.iaload, 1) := by decide +kernel
theorem dX8_readPerson_6 : decode cX8_readPerson 6 = .ok (.istore_n 1, 1) := by decide +kernel
theorem dX8_readPerson_7 : decode cX8_readPerson 7 = .ok (.iload_n 1, 1) := by decide +kernel
theorem dX8_readPerson_8 : decode cX8_readPerson 8 = .ok (.bipush 7, 2) := by decide +kernel
theorem dX8_readPerson_10 : decode cX8_readPerson 10 = .ok (.if_icmp .ne 8, 3) := by decide +kernel
theorem dX8_readPerson_13 : decode cX8_readPerson 13 = .ok (.aload_n 0, 1) := by decide +kernel
theorem dX8_readPerson_14 : decode cX8_readPerson 14 = .ok (.iconst 4, 1) := by decide +kernel
theorem dX8_readPerson_15 : decode cX8_readPerson 15 = .ok (.invokevirtual 150, 3) := by decide +kernel
theorem dX8_readPerson_18 : decode cX8_readPerson 18 = .ok (.aload_n 0, 1) := by decide +kernel
theorem dX8_readPerson_19 : decode cX8_readPerson 19 = .ok (.getfield 138, 3) := by decide +kernel
theorem dX8_readPerson_22 : decode cX8_readPerson 22 = .ok (.ifCond .eq 4, 3) := by decide +kernel
theorem dX8_readPerson_25 : decode cX8_readPerson 25 = .ok (.return_, 1) := by decide +kernel
theorem dX8_readPerson_26 : decode cX8_readPerson 26 = .ok (.aload_n 0, 1) := by decide +kernel
theorem dX8_readPerson_27 : decode cX8_readPerson 27 = .ok (.invokevirtual 147, 3) := by decide +kernel
theorem dX8_readPerson_30 : decode cX8_readPerson 30 = .ok (.iconst 0, 1) := by decide +kernel
theorem dX8_readPerson_31 : decode cX8_readPerson 31 = .ok (.istore_n 2, 1) := by decide +kernel
theorem dX8_readPerson_32 : decode cX8_readPerson 32 = .ok (.iload_n 2, 1) := by decide +kernel
theorem dX8_readPerson_33 : decode cX8_readPerson 33 = .ok (.iconst 3, 1) := by decide +kernel
theorem dX8_readPerson_34 : decode cX8_readPerson 34 = .ok (.if_icmp .ge 59, 3) := by decide +kernel
theorem dX8_readPerson_37 : decode cX8_readPerson 37 = .ok (.aload_n 0, 1) := by decide +kernel
theorem dX8_readPerson_38 : decode cX8_readPerson 38 = .ok (.iconst 0, 1) := by decide +kernel
theorem dX8_readPerson_39 : decode cX8_readPerson 39 = .ok (.bipush 7, 2) := by decide +kernel
theorem dX8_readPerson_41 : decode cX8_readPerson 41 = .ok (.invokevirtual 191, 3) := by decide +kernel
theorem dX8_readPerson_44 : decode cX8_readPerson 44 = .ok (.istore_n 3, 1) := by decide +kernel
theorem dX8_readPerson_45 : decode cX8_readPerson 45 = .ok (.iconst 0, 1) := by decide +kernel
theorem dX8_readPerson_46 : decode cX8_readPerson 46 = .ok (.istore 4, 2) := by decide +kernel
theorem dX8_readPerson_48 : decode cX8_readPerson 48 = .ok (.iload 4, 2) := by decide +kernel
theorem dX8_readPerson_50 : decode cX8_readPerson 50 = .ok (.iconst 3, 1) := by decide +kernel
theorem dX8_readPerson_51 : decode cX8_readPerson 51 = .ok (.if_icmp .ge 36, 3) := by decide +kernel
theorem dX8_readPerson_54 : decode cX8_readPerson 54 = .ok (.aload_n 0, 1) := by decide +kernel
theorem dX8_readPerson_55 : decode cX8_readPerson 55 = .ok (.getfield 24, 3) := by decide +kernel
theorem dX8_readPerson_58 : decode cX8_readPerson 58 = .ok (.bipush 29, 2) := by decide +kernel
theorem dX8_readPerson_60 : decode cX8_readPerson 60 = .ok (.iload_n 1, 1) := by decide +kernel
theorem dX8_readPerson_61 : decode cX8_readPerson 61 = .ok (.iadd, 1) := by decide +kernel
theorem dX8_readPerson_62 : decode cX8_readPerson 62 = .ok (.dup2, 1) := by decide +kernel
theorem dX8_readPerson_63 : decode cX8_readPerson 63 = .ok (.iaload, 1) := by decide +kernel
theorem dX8_readPerson_64 : decode cX8_readPerson 64 = .ok (.iload_n 3, 1) := by decide +kernel
theorem dX8_readPerson_65 : decode cX8_readPerson 65 = .ok (.iconst 2, 1) := by decide +kernel
theorem dX8_readPerson_66 : decode cX8_readPerson 66 = .ok (.iload 4, 2) := by decide +kernel
theorem dX8_readPerson_68 : decode cX8_readPerson 68 = .ok (.isub, 1) := by decide +kernel
theorem dX8_readPerson_69 : decode cX8_readPerson 69 = .ok (.ishr, 1) := by decide +kernel
theorem dX8_readPerson_70 : decode cX8_readPerson 70 = .ok (.iconst 1, 1) := by decide +kernel
theorem dX8_readPerson_71 : decode cX8_readPerson 71 = .ok (.iand, 1) := by decide +kernel
theorem dX8_readPerson_72 : decode cX8_readPerson 72 = .ok (.iconst 3, 1) := by decide +kernel
theorem dX8_readPerson_73 : decode cX8_readPerson 73 = .ok (.iload_n 2, 1) := by decide +kernel
theorem dX8_readPerson_74 : decode cX8_readPerson 74 = .ok (.imul, 1) := by decide +kernel
theorem dX8_readPerson_75 : decode cX8_readPerson 75 = .ok (.iload 4, 2) := by decide +kernel
theorem dX8_readPerson_77 : decode cX8_readPerson 77 = .ok (.iadd, 1) := by decide +kernel
theorem dX8_readPerson_78 : decode cX8_readPerson 78 = .ok (.ishl, 1) := by decide +kernel
theorem dX8_readPerson_79 : decode cX8_readPerson 79 = .ok (.ior, 1) := by decide +kernel
theorem dX8_readPerson_80 : decode cX8_readPerson 80 = .ok (.iastore, 1) := by decide +kernel
theorem dX8_readPerson_81 : decode cX8_readPerson 81 = .ok (.iinc 4 1, 3) := by decide +kernel
theorem dX8_readPerson_84 : decode cX8_readPerson 84 = .ok (.goto (-36), 3) := by decide +kernel
theorem dX8_readPerson_87 : decode cX8_readPerson 87 = .ok (.iinc 2 1, 3) := by decide +kernel
theorem dX8_readPerson_90 : decode cX8_readPerson 90 = .ok (.goto (-58), 3) := by decide +kernel
theorem dX8_readPerson_93 : decode cX8_readPerson 93 = .ok (.aload_n 0, 1) := by decide +kernel
theorem dX8_readPerson_94 : decode cX8_readPerson 94 = .ok (.getfield 24, 3) := by decide +kernel
theorem dX8_readPerson_97 : decode cX8_readPerson 97 = .ok (.bipush 15, 2) := by decide +kernel
theorem dX8_readPerson_99 : decode cX8_readPerson 99 = .ok (.iload_n 1, 1) := by decide +kernel
theorem dX8_readPerson_100 : decode cX8_readPerson 100 = .ok (.iadd, 1) := by decide +kernel
theorem dX8_readPerson_101 : decode cX8_readPerson 101 = .ok (.iconst 1, 1) := by decide +kernel
theorem dX8_readPerson_102 : decode cX8_readPerson 102 = .ok (.iastore, 1) := by decide +kernel
theorem dX8_readPerson_103 : decode cX8_readPerson 103 = .ok (.aload_n 0, 1) := by decide +kernel
theorem dX8_readPerson_104 : decode cX8_readPerson 104 = .ok (.getfield 138, 3) := by decide +kernel
theorem dX8_readPerson_107 : decode cX8_readPerson 107 = .ok (.ifCond .ne 14, 3) := by decide +kernel
theorem dX8_readPerson_110 : decode cX8_readPerson 110 = .ok (.aload_n 0, 1) := by decide +kernel
theorem dX8_readPerson_111 : decode cX8_readPerson 111 = .ok (.iload_n 1, 1) := by decide +kernel
theorem dX8_readPerson_112 : decode cX8_readPerson 112 = .ok (.invokevirtual 195, 3) := by decide +kernel
theorem dX8_readPerson_115 : decode cX8_readPerson 115 = .ok (.ifCond .eq 6, 3) := by decide +kernel
theorem dX8_readPerson_118 : decode cX8_readPerson 118 = .ok (.goto (-15), 3) := by decide +kernel
theorem dX8_readPerson_121 : decode cX8_readPerson 121 = .ok (.aload_n 0, 1) := by decide +kernel
theorem dX8_readPerson_122 : decode cX8_readPerson 122 = .ok (.getfield 138, 3) := by decide +kernel
theorem dX8_readPerson_125 : decode cX8_readPerson 125 = .ok (.ifCond .ne 13, 3) := by decide +kernel
theorem dX8_readPerson_128 : decode cX8_readPerson 128 = .ok (.aload_n 0, 1) := by decide +kernel
theorem dX8_readPerson_129 : decode cX8_readPerson 129 = .ok (.getfield 24, 3) := by decide +kernel
theorem dX8_readPerson_132 : decode cX8_readPerson 132 = .ok (.iconst 1, 1) := by decide +kernel
theorem dX8_readPerson_133 : decode cX8_readPerson 133 = .ok (.dup2, 1) := by decide +kernel
theorem dX8_readPerson_134 : decode cX8_readPerson 134 = .ok (.iaload, 1) := by decide +kernel
theorem dX8_readPerson_135 : decode cX8_readPerson 135 = .ok (.iconst 1, 1) := by decide +kernel
theorem dX8_readPerson_136 : decode cX8_readPerson 136 = .ok (.iadd, 1) := by decide +kernel
theorem dX8_readPerson_137 : decode cX8_readPerson 137 = .ok (.iastore, 1) := by decide +kernel
theorem dX8_readPerson_138 : decode cX8_readPerson 138 = .ok (.return_, 1) := by decide +kernel
def f_X8_readPerson_138  (s : zS) : Option (Unit × zS) :=
  some ((), s)
set_option maxRecDepth 20000 in
theorem b_X8_readPerson_138 {X : zX} (hX : zx_ok X cX8_readPerson RX8 5) (hT : zx_rt X none (zR 8 173)) : ∀  (s : zS), zV X (zq X zrV) 5 138 [] [] s (f_X8_readPerson_138  s) := by
  intro  s
  unfold f_X8_readPerson_138
  exact zv_vret hX hT dX8_readPerson_138
def f_X8_readPerson_121  (s : zS) : Option (Unit × zS) :=
  if ¬ (s.1 76 11) = 0 then
  (f_X8_readPerson_138 s)
  else
  (zr_i s 80 (1 : Int32)).bind fun x1 =>
  (zw_i s 80 (1 : Int32) (x1 + (1 : Int32))).bind fun s2 =>
  f_X8_readPerson_138 s2
set_option maxRecDepth 20000 in
theorem b_X8_readPerson_121 {X : zX} (hX : zx_ok X cX8_readPerson RX8 5) (hT : zx_rt X none (zR 8 173)) : ∀  (s : zS), zV X (zq X zrV) 5 121 [(0, .ref (zx_ad X 76))] [] s (f_X8_readPerson_121  s) := by
  intro  s
  unfold f_X8_readPerson_121
  refine zv_aload_n hX dX8_readPerson_121 0 rfl ?_
  refine zv_geti hX wf_X8_138 wc_8 zd_76 zj_76_11 c9_8 zr_76_11 dX8_readPerson_122 ?_
  refine zv_if_ne (tgt := 138) hX dX8_readPerson_125 rfl ?_ ?_
  · exact zv_sub [] rfl (b_X8_readPerson_138 hX hT  s)
  · refine zv_aload_n hX dX8_readPerson_128 0 rfl ?_
    refine zv_geta hX wf_X8_24 wc_8 zd_76 zj_76_4 c9_8 zr_76_4 (by decide) dX8_readPerson_129 ?_
    refine zv_iconst (v := (1 : Int32)) hX dX8_readPerson_132 zi_i_1 ?_
    refine zv_dup2 hX dX8_readPerson_133 rfl rfl ?_
    refine zv_iald hX dX8_readPerson_134 (fun x1 => ?_)
    refine zv_iconst (v := (1 : Int32)) hX dX8_readPerson_135 zi_i_1 ?_
    refine zv_iadd hX dX8_readPerson_136 ?_
    refine zv_iast hX dX8_readPerson_137 (fun s2 => ?_)
    exact zv_sub [] rfl (b_X8_readPerson_138 hX hT  s2)
def f_X8_readPerson_103 : Nat → Int32 → zS → Option (Unit × zS)
  | 0, _, _ => none
  | n + 1, v1, s =>
    if ¬ (s.1 76 11) = 0 then
    (f_X8_readPerson_121 s)
    else
    zbd (f_X8_readFlag v1 s) fun r3 s4 =>
    if r3 = 0 then
    (f_X8_readPerson_121 s4)
    else
    f_X8_readPerson_103 n v1 s4
set_option maxRecDepth 20000 in
theorem b_X8_readPerson_103 {X : zX} (hX : zx_ok X cX8_readPerson RX8 5) (hT : zx_rt X none (zR 8 173)) : ∀ (n : Nat) (v1 : Int32) (s : zS), zV X (zq X zrV) 5 103 [(0, .ref (zx_ad X 76)), (1, .int v1)] [] s (f_X8_readPerson_103 n v1 s) := by
  intro n
  induction n with
  | zero => intro v1 s; exact zv_none
  | succ n ih =>
    intro v1 s
    rw [f_X8_readPerson_103]
    refine zv_aload_n hX dX8_readPerson_103 0 rfl ?_
    refine zv_geti hX wf_X8_138 wc_8 zd_76 zj_76_11 c9_8 zr_76_11 dX8_readPerson_104 ?_
    refine zv_if_ne (tgt := 121) hX dX8_readPerson_107 rfl ?_ ?_
    · exact zv_sub [0] rfl (b_X8_readPerson_121 hX hT  s)
    · refine zv_aload_n hX dX8_readPerson_110 0 rfl ?_
      refine zv_iload_n hX dX8_readPerson_111 1 rfl ?_
      refine zv_cVI [.int v1] (rest := []) hX hT.2.2.2.2 (c_X8_readFlag (zx_Y X) v1 s) wv_X8_readFlag c9_8 zd_76 wm_X8_195 rfl (Nat.le_of_ble_eq_true rfl) (Nat.le_of_ble_eq_true rfl) rfl (Nat.le_of_ble_eq_true rfl) dX8_readPerson_112 (fun r3 s4 => ?_)
      refine zv_if_eq (tgt := 121) hX dX8_readPerson_115 rfl ?_ ?_
      · exact zv_sub [0] rfl (b_X8_readPerson_121 hX hT  s4)
      · refine zv_goto (tgt := 103) hX dX8_readPerson_118 rfl ?_
        exact ih v1 s4
def f_X8_readPerson_48 (kb_32 : Int32 → Int32 → zS → Option (Unit × zS)) : Nat → Int32 → Int32 → Int32 → Int32 → zS → Option (Unit × zS)
  | 0, _, _, _, _, _ => none
  | n + 1, v1, v2, v3, v4, s =>
    if (nI 3) ≤ v4 then
    (zb (v2 + (1 : Int32)) fun x5 =>
    kb_32 v1 x5 s)
    else
    (zr_i s 80 ((nI 29) + v1)).bind fun x6 =>
    (zw_i s 80 ((nI 29) + v1) (x6 ||| (zo_shl ((zo_shr v3 ((nI 2) - v4)) &&& (1 : Int32)) (((nI 3) * v2) + v4)))).bind fun s7 =>
    zb (v4 + (1 : Int32)) fun x8 =>
    f_X8_readPerson_48 kb_32 n v1 v2 v3 x8 s7
set_option maxRecDepth 20000 in
theorem b_X8_readPerson_48 {X : zX} {kb_32 : Int32 → Int32 → zS → Option (Unit × zS)} (hX : zx_ok X cX8_readPerson RX8 5) (hT : zx_rt X none (zR 8 173)) (hk_32 : ∀ (v1 : Int32) (v2 : Int32) (s : zS), zV X (zq X zrV) 5 32 [(0, .ref (zx_ad X 76)), (1, .int v1), (2, .int v2)] [] s (kb_32 v1 v2 s)) : ∀ (n : Nat) (v1 : Int32) (v2 : Int32) (v3 : Int32) (v4 : Int32) (s : zS), zV X (zq X zrV) 5 48 [(0, .ref (zx_ad X 76)), (1, .int v1), (2, .int v2), (3, .int v3), (4, .int v4)] [] s (f_X8_readPerson_48 kb_32 n v1 v2 v3 v4 s) := by
  intro n
  induction n with
  | zero => intro v1 v2 v3 v4 s; exact zv_none
  | succ n ih =>
    intro v1 v2 v3 v4 s
    rw [f_X8_readPerson_48]
    refine zv_iload hX dX8_readPerson_48 4 rfl ?_
    refine zv_iconst (v := (nI 3)) hX dX8_readPerson_50 zi_i_3 ?_
    refine zv_icmp_ge (tgt := 87) hX dX8_readPerson_51 rfl ?_ ?_
    · refine zv_iincB (lw := fun x5 => [(2, .int x5), (0, .ref (zx_ad X 76)), (1, .int v1), (3, .int v3), (4, .int v4)]) hX dX8_readPerson_87 2 rfl zi_i_1 (by decide) (fun _ => rfl) (fun x5 => ?_)
      refine zv_goto (tgt := 32) hX dX8_readPerson_90 rfl ?_
      exact zv_sub [1, 2, 0] rfl (hk_32 v1 x5 s)
    · refine zv_aload_n hX dX8_readPerson_54 0 rfl ?_
      refine zv_geta hX wf_X8_24 wc_8 zd_76 zj_76_4 c9_8 zr_76_4 (by decide) dX8_readPerson_55 ?_
      refine zv_bipush (v := (nI 29)) hX dX8_readPerson_58 zi_b_29 ?_
      refine zv_iload_n hX dX8_readPerson_60 1 rfl ?_
      refine zv_iadd hX dX8_readPerson_61 ?_
      refine zv_dup2 hX dX8_readPerson_62 rfl rfl ?_
      refine zv_iald hX dX8_readPerson_63 (fun x6 => ?_)
      refine zv_iload_n hX dX8_readPerson_64 3 rfl ?_
      refine zv_iconst (v := (nI 2)) hX dX8_readPerson_65 zi_i_2 ?_
      refine zv_iload hX dX8_readPerson_66 4 rfl ?_
      refine zv_isub hX dX8_readPerson_68 ?_
      refine zv_ishr hX dX8_readPerson_69 ?_
      refine zv_iconst (v := (1 : Int32)) hX dX8_readPerson_70 zi_i_1 ?_
      refine zv_iand hX dX8_readPerson_71 ?_
      refine zv_iconst (v := (nI 3)) hX dX8_readPerson_72 zi_i_3 ?_
      refine zv_iload_n hX dX8_readPerson_73 2 rfl ?_
      refine zv_imul hX dX8_readPerson_74 ?_
      refine zv_iload hX dX8_readPerson_75 4 rfl ?_
      refine zv_iadd hX dX8_readPerson_77 ?_
      refine zv_ishl hX dX8_readPerson_78 ?_
      refine zv_ior hX dX8_readPerson_79 ?_
      refine zv_iast hX dX8_readPerson_80 (fun s7 => ?_)
      refine zv_iincB (lw := fun x8 => [(4, .int x8), (0, .ref (zx_ad X 76)), (1, .int v1), (2, .int v2), (3, .int v3)]) hX dX8_readPerson_81 4 rfl zi_i_1 (by decide) (fun _ => rfl) (fun x8 => ?_)
      refine zv_goto (tgt := 48) hX dX8_readPerson_84 rfl ?_
      exact zv_sub [1, 2, 3, 4, 0] rfl (ih v1 v2 v3 x8 s7)
def f_X8_readPerson_32 : Nat → Int32 → Int32 → zS → Option (Unit × zS)
  | 0, _, _, _ => none
  | n + 1, v1, v2, s =>
    if (nI 3) ≤ v2 then
    ((zw_i s 80 ((nI 15) + v1) (1 : Int32)).bind fun s9 =>
    f_X8_readPerson_103 zFU v1 s9)
    else
    zbd (f_X8_takes (0 : Int32) (nI 7) s) fun r10 s11 =>
    f_X8_readPerson_48 (f_X8_readPerson_32 n) zFU v1 v2 r10 (0 : Int32) s11
set_option maxRecDepth 20000 in
theorem b_X8_readPerson_32 {X : zX} (hX : zx_ok X cX8_readPerson RX8 5) (hT : zx_rt X none (zR 8 173)) : ∀ (n : Nat) (v1 : Int32) (v2 : Int32) (s : zS), zV X (zq X zrV) 5 32 [(0, .ref (zx_ad X 76)), (1, .int v1), (2, .int v2)] [] s (f_X8_readPerson_32 n v1 v2 s) := by
  intro n
  induction n with
  | zero => intro v1 v2 s; exact zv_none
  | succ n ih =>
    intro v1 v2 s
    rw [f_X8_readPerson_32]
    refine zv_iload_n hX dX8_readPerson_32 2 rfl ?_
    refine zv_iconst (v := (nI 3)) hX dX8_readPerson_33 zi_i_3 ?_
    refine zv_icmp_ge (tgt := 93) hX dX8_readPerson_34 rfl ?_ ?_
    · refine zv_aload_n hX dX8_readPerson_93 0 rfl ?_
      refine zv_geta hX wf_X8_24 wc_8 zd_76 zj_76_4 c9_8 zr_76_4 (by decide) dX8_readPerson_94 ?_
      refine zv_bipush (v := (nI 15)) hX dX8_readPerson_97 zi_b_15 ?_
      refine zv_iload_n hX dX8_readPerson_99 1 rfl ?_
      refine zv_iadd hX dX8_readPerson_100 ?_
      refine zv_iconst (v := (1 : Int32)) hX dX8_readPerson_101 zi_i_1 ?_
      refine zv_iast hX dX8_readPerson_102 (fun s9 => ?_)
      exact zv_sub [0, 1] rfl (b_X8_readPerson_103 hX hT zFU v1 s9)
    · refine zv_aload_n hX dX8_readPerson_37 0 rfl ?_
      refine zv_iconst (v := (0 : Int32)) hX dX8_readPerson_38 zi_i_0 ?_
      refine zv_bipush (v := (nI 7)) hX dX8_readPerson_39 zi_b_7 ?_
      refine zv_cVI [.int (0 : Int32), .int (nI 7)] (rest := []) hX hT.2.2.2.2 (c_X8_takes (zx_Y X) (0 : Int32) (nI 7) s) wv_X8_takes c9_8 zd_76 wm_X8_191 rfl (Nat.le_of_ble_eq_true rfl) (Nat.le_of_ble_eq_true rfl) rfl (Nat.le_of_ble_eq_true rfl) dX8_readPerson_41 (fun r10 s11 => ?_)
      refine zv_istore_n (lv' := [(3, .int r10), (0, .ref (zx_ad X 76)), (1, .int v1), (2, .int v2)]) hX dX8_readPerson_44 (by decide) rfl ?_
      refine zv_iconst (v := (0 : Int32)) hX dX8_readPerson_45 zi_i_0 ?_
      refine zv_istore (lv' := [(4, .int (0 : Int32)), (3, .int r10), (0, .ref (zx_ad X 76)), (1, .int v1), (2, .int v2)]) hX dX8_readPerson_46 (by decide) rfl ?_
      exact zv_sub [2, 3, 4, 1, 0] rfl (b_X8_readPerson_48 hX hT ih zFU v1 v2 r10 (0 : Int32) s11)
def f_X8_readPerson_18 (v1 : Int32) (s : zS) : Option (Unit × zS) :=
  if (s.1 76 11) = 0 then
  (zbd (f_X8_next s) fun _ s12 =>
  f_X8_readPerson_32 zFU v1 (0 : Int32) s12)
  else
  some ((), s)
set_option maxRecDepth 20000 in
theorem b_X8_readPerson_18 {X : zX} (hX : zx_ok X cX8_readPerson RX8 5) (hT : zx_rt X none (zR 8 173)) : ∀ (v1 : Int32) (s : zS), zV X (zq X zrV) 5 18 [(0, .ref (zx_ad X 76)), (1, .int v1)] [] s (f_X8_readPerson_18 v1 s) := by
  intro v1 s
  unfold f_X8_readPerson_18
  refine zv_aload_n hX dX8_readPerson_18 0 rfl ?_
  refine zv_geti hX wf_X8_138 wc_8 zd_76 zj_76_11 c9_8 zr_76_11 dX8_readPerson_19 ?_
  refine zv_if_eq (tgt := 26) hX dX8_readPerson_22 rfl ?_ ?_
  · refine zv_aload_n hX dX8_readPerson_26 0 rfl ?_
    refine zv_cVV [] (rest := []) hX hT.2.2.2.2 (c_X8_next (zx_Y X) s) wv_X8_next c9_8 zd_76 wm_X8_147 rfl (Nat.le_of_ble_eq_true rfl) (Nat.le_of_ble_eq_true rfl) rfl (Nat.le_of_ble_eq_true rfl) dX8_readPerson_27 (fun _ s12 => ?_)
    refine zv_iconst (v := (0 : Int32)) hX dX8_readPerson_30 zi_i_0 ?_
    refine zv_istore_n (lv' := [(2, .int (0 : Int32)), (0, .ref (zx_ad X 76)), (1, .int v1)]) hX dX8_readPerson_31 (by decide) rfl ?_
    exact zv_sub [1, 2, 0] rfl (b_X8_readPerson_32 hX hT zFU v1 (0 : Int32) s12)
  · exact zv_vret hX hT dX8_readPerson_25
def f_X8_readPerson  (s : zS) : Option (Unit × zS) :=
  (zr_i s 80 (1 : Int32)).bind fun x13 =>
  if ¬ x13 = (nI 7) then
  (f_X8_readPerson_18 x13 s)
  else
  zbd (f_X8_fails (nI 4) s) fun _ s14 =>
  f_X8_readPerson_18 x13 s14
set_option maxRecDepth 20000 in
theorem c_X8_readPerson (Y : zG)  (s : zS) : zM Y yX8_readPerson cX8_readPerson 5 none (zR 8 173) [.ref (zy_a Y 76)] s zrV (f_X8_readPerson  s) := by
  refine zm_start (by decide +kernel) (Nat.le_of_ble_eq_true rfl) ?_
  intro X hY hT hX
  subst hY
  have hX : zx_ok X cX8_readPerson RX8 5 := hX
  show zV X (zq X zrV) 5 0 [(0, .ref (zx_ad X 76))] [] s _
  unfold f_X8_readPerson
  refine zv_aload_n hX dX8_readPerson_0 0 rfl ?_
  refine zv_geta hX wf_X8_24 wc_8 zd_76 zj_76_4 c9_8 zr_76_4 (by decide) dX8_readPerson_1 ?_
  refine zv_iconst (v := (1 : Int32)) hX dX8_readPerson_4 zi_i_1 ?_
  refine zv_iald hX dX8_readPerson_5 (fun x13 => ?_)
  refine zv_istore_n (lv' := [(1, .int x13), (0, .ref (zx_ad X 76))]) hX dX8_readPerson_6 (by decide) rfl ?_
  refine zv_iload_n hX dX8_readPerson_7 0 rfl ?_
  refine zv_bipush (v := (nI 7)) hX dX8_readPerson_8 zi_b_7 ?_
  refine zv_icmp_ne (tgt := 18) hX dX8_readPerson_10 rfl ?_ ?_
  · exact zv_sub [1, 0] rfl (b_X8_readPerson_18 hX hT x13 s)
  · refine zv_aload_n hX dX8_readPerson_13 1 rfl ?_
    refine zv_iconst (v := (nI 4)) hX dX8_readPerson_14 zi_i_4 ?_
    refine zv_cVV [.int (nI 4)] (rest := []) hX hT.2.2.2.2 (c_X8_fails (zx_Y X) (nI 4) s) wv_X8_fails c9_8 zd_76 wm_X8_150 rfl (Nat.le_of_ble_eq_true rfl) (Nat.le_of_ble_eq_true rfl) rfl (Nat.le_of_ble_eq_true rfl) dX8_readPerson_15 (fun _ s14 => ?_)
    exact zv_sub [1, 0] rfl (b_X8_readPerson_18 hX hT x13 s14)
theorem dX8_readLine_0 : decode cX8_readLine 0 = .ok (.aload_n 0, 1) := by decide +kernel
theorem dX8_readLine_1 : decode cX8_readLine 1 = .ok (.getfield 138, 3) := by decide +kernel
theorem dX8_readLine_4 : decode cX8_readLine 4 = .ok (.ifCond .eq 4, 3) := by decide +kernel
theorem dX8_readLine_7 : decode cX8_readLine 7 = .ok (.return_, 1) := by decide +kernel
theorem dX8_readLine_8 : decode cX8_readLine 8 = .ok (.aload_n 0, 1) := by decide +kernel
theorem dX8_readLine_9 : decode cX8_readLine 9 = .ok (.iconst 1, 1) := by decide +kernel
theorem dX8_readLine_10 : decode cX8_readLine 10 = .ok (.invokevirtual 144, 3) := by decide +kernel
theorem dX8_readLine_13 : decode cX8_readLine 13 = .ok (.ifCond .eq 10, 3) := by decide +kernel
theorem dX8_readLine_16 : decode cX8_readLine 16 = .ok (.aload_n 0, 1) := by decide +kernel
theorem dX8_readLine_17 : decode cX8_readLine 17 = .ok (.invokevirtual 201, 3) := by decide +kernel
theorem dX8_readLine_20 : decode cX8_readLine 20 = .ok (.goto 55, 3) := by decide +kernel
theorem dX8_readLine_23 : decode cX8_readLine 23 = .ok (.aload_n 0, 1) := by decide +kernel
theorem dX8_readLine_24 : decode cX8_readLine 24 = .ok (.iconst 2, 1) := by decide +kernel
theorem dX8_readLine_25 : decode cX8_readLine 25 = .ok (.invokevirtual 144, 3) := by decide +kernel
theorem dX8_readLine_28 : decode cX8_readLine 28 = .ok (.ifCond .eq 10, 3) := by decide +kernel
theorem dX8_readLine_31 : decode cX8_readLine 31 = .ok (.aload_n 0, 1) := by decide +kernel
theorem dX8_readLine_32 : decode cX8_readLine 32 = .ok (.invokevirtual 204, 3) := by decide +kernel
theorem dX8_readLine_35 : decode cX8_readLine 35 = .ok (.goto 40, 3) := by decide +kernel
theorem dX8_readLine_38 : decode cX8_readLine 38 = .ok (.aload_n 0, 1) := by decide +kernel
theorem dX8_readLine_39 : decode cX8_readLine 39 = .ok (.bipush 6, 2) := by decide +kernel
theorem dX8_readLine_41 : decode cX8_readLine 41 = .ok (.invokevirtual 144, 3) := by decide +kernel
theorem dX8_readLine_44 : decode cX8_readLine 44 = .ok (.ifCond .ne 12, 3) := by decide +kernel
theorem dX8_readLine_47 : decode cX8_readLine 47 = .ok (.aload_n 0, 1) := by decide +kernel
theorem dX8_readLine_48 : decode cX8_readLine 48 = .ok (.bipush 7, 2) := by decide +kernel
theorem dX8_readLine_50 : decode cX8_readLine 50 = .ok (.invokevirtual 144, 3) := by decide +kernel
theorem dX8_readLine_53 : decode cX8_readLine 53 = .ok (.ifCond .eq 17, 3) := by decide +kernel
theorem dX8_readLine_56 : decode cX8_readLine 56 = .ok (.aload_n 0, 1) := by decide +kernel
theorem dX8_readLine_57 : decode cX8_readLine 57 = .ok (.aload_n 0, 1) := by decide +kernel
theorem dX8_readLine_58 : decode cX8_readLine 58 = .ok (.getfield 120, 3) := by decide +kernel
theorem dX8_readLine_61 : decode cX8_readLine 61 = .ok (.bipush 6, 2) := by decide +kernel
theorem dX8_readLine_63 : decode cX8_readLine 63 = .ok (.isub, 1) := by decide +kernel
theorem dX8_readLine_64 : decode cX8_readLine 64 = .ok (.invokevirtual 207, 3) := by decide +kernel
theorem dX8_readLine_67 : decode cX8_readLine 67 = .ok (.goto 8, 3) := by decide +kernel
theorem dX8_readLine_70 : decode cX8_readLine 70 = .ok (.aload_n 0, 1) := by decide +kernel
theorem dX8_readLine_71 : decode cX8_readLine 71 = .ok (.iconst 2, 1) := by decide +kernel
theorem dX8_readLine_72 : decode cX8_readLine 72 = .ok (.invokevirtual 150, 3) := by decide +kernel
theorem dX8_readLine_75 : decode cX8_readLine 75 = .ok (.return_, 1) := by decide +kernel
def f_X8_readLine_75  (s : zS) : Option (Unit × zS) :=
  some ((), s)
set_option maxRecDepth 20000 in
theorem b_X8_readLine_75 {X : zX} (hX : zx_ok X cX8_readLine RX8 1) (hT : zx_rt X none (zR 138 3031)) : ∀  (s : zS), zV X (zq X zrV) 1 75 [] [] s (f_X8_readLine_75  s) := by
  intro  s
  unfold f_X8_readLine_75
  exact zv_vret hX hT dX8_readLine_75
def f_X8_readLine_56  (s : zS) : Option (Unit × zS) :=
  zbd (f_X8_readLaw ((s.1 76 9) - (nI 6)) s) fun _ s1 =>
  f_X8_readLine_75 s1
set_option maxRecDepth 20000 in
theorem b_X8_readLine_56 {X : zX} (hX : zx_ok X cX8_readLine RX8 1) (hT : zx_rt X none (zR 138 3031)) : ∀  (s : zS), zV X (zq X zrV) 1 56 [(0, .ref (zx_ad X 76))] [] s (f_X8_readLine_56  s) := by
  intro  s
  unfold f_X8_readLine_56
  refine zv_aload_n hX dX8_readLine_56 0 rfl ?_
  refine zv_aload_n hX dX8_readLine_57 0 rfl ?_
  refine zv_geti hX wf_X8_120 wc_8 zd_76 zj_76_9 c9_8 zr_76_9 dX8_readLine_58 ?_
  refine zv_bipush (v := (nI 6)) hX dX8_readLine_61 zi_b_6 ?_
  refine zv_isub hX dX8_readLine_63 ?_
  refine zv_cVV [.int ((s.1 76 9) - (nI 6))] (rest := []) hX hT.2.2.2.2 (c_X8_readLaw (zx_Y X) ((s.1 76 9) - (nI 6)) s) wv_X8_readLaw c9_8 zd_76 wm_X8_207 rfl (Nat.le_of_ble_eq_true rfl) (Nat.le_of_ble_eq_true rfl) rfl (Nat.le_of_ble_eq_true rfl) dX8_readLine_64 (fun _ s1 => ?_)
  refine zv_goto (tgt := 75) hX dX8_readLine_67 rfl ?_
  exact zv_sub [] rfl (b_X8_readLine_75 hX hT  s1)
def f_X8_readLine  (s : zS) : Option (Unit × zS) :=
  if (s.1 76 11) = 0 then
  (zbd (f_X8_is (1 : Int32) s) fun r2 s3 =>
  if r2 = 0 then
  (zbd (f_X8_is (nI 2) s3) fun r4 s5 =>
  if r4 = 0 then
  (zbd (f_X8_is (nI 6) s5) fun r6 s7 =>
  if ¬ r6 = 0 then
  (f_X8_readLine_56 s7)
  else
  zbd (f_X8_is (nI 7) s7) fun r8 s9 =>
  if r8 = 0 then
  (zbd (f_X8_fails (nI 2) s9) fun _ s10 =>
  f_X8_readLine_75 s10)
  else
  f_X8_readLine_56 s9)
  else
  zbd (f_X8_readEngaged s5) fun _ s11 =>
  f_X8_readLine_75 s11)
  else
  zbd (f_X8_readPerson s3) fun _ s12 =>
  f_X8_readLine_75 s12)
  else
  some ((), s)
set_option maxRecDepth 20000 in
theorem c_X8_readLine (Y : zG)  (s : zS) : zM Y yX8_readLine cX8_readLine 1 none (zR 138 3031) [.ref (zy_a Y 76)] s zrV (f_X8_readLine  s) := by
  refine zm_start (by decide +kernel) (Nat.le_of_ble_eq_true rfl) ?_
  intro X hY hT hX
  subst hY
  have hX : zx_ok X cX8_readLine RX8 1 := hX
  show zV X (zq X zrV) 1 0 [(0, .ref (zx_ad X 76))] [] s _
  unfold f_X8_readLine
  refine zv_aload_n hX dX8_readLine_0 0 rfl ?_
  refine zv_geti hX wf_X8_138 wc_8 zd_76 zj_76_11 c9_8 zr_76_11 dX8_readLine_1 ?_
  refine zv_if_eq (tgt := 8) hX dX8_readLine_4 rfl ?_ ?_
  · refine zv_aload_n hX dX8_readLine_8 0 rfl ?_
    refine zv_iconst (v := (1 : Int32)) hX dX8_readLine_9 zi_i_1 ?_
    refine zv_cVI [.int (1 : Int32)] (rest := []) hX hT.2.2.2.2 (c_X8_is (zx_Y X) (1 : Int32) s) wv_X8_is c9_8 zd_76 wm_X8_144 rfl (Nat.le_of_ble_eq_true rfl) (Nat.le_of_ble_eq_true rfl) rfl (Nat.le_of_ble_eq_true rfl) dX8_readLine_10 (fun r2 s3 => ?_)
    refine zv_if_eq (tgt := 23) hX dX8_readLine_13 rfl ?_ ?_
    · refine zv_aload_n hX dX8_readLine_23 0 rfl ?_
      refine zv_iconst (v := (nI 2)) hX dX8_readLine_24 zi_i_2 ?_
      refine zv_cVI [.int (nI 2)] (rest := []) hX hT.2.2.2.2 (c_X8_is (zx_Y X) (nI 2) s3) wv_X8_is c9_8 zd_76 wm_X8_144 rfl (Nat.le_of_ble_eq_true rfl) (Nat.le_of_ble_eq_true rfl) rfl (Nat.le_of_ble_eq_true rfl) dX8_readLine_25 (fun r4 s5 => ?_)
      refine zv_if_eq (tgt := 38) hX dX8_readLine_28 rfl ?_ ?_
      · refine zv_aload_n hX dX8_readLine_38 0 rfl ?_
        refine zv_bipush (v := (nI 6)) hX dX8_readLine_39 zi_b_6 ?_
        refine zv_cVI [.int (nI 6)] (rest := []) hX hT.2.2.2.2 (c_X8_is (zx_Y X) (nI 6) s5) wv_X8_is c9_8 zd_76 wm_X8_144 rfl (Nat.le_of_ble_eq_true rfl) (Nat.le_of_ble_eq_true rfl) rfl (Nat.le_of_ble_eq_true rfl) dX8_readLine_41 (fun r6 s7 => ?_)
        refine zv_if_ne (tgt := 56) hX dX8_readLine_44 rfl ?_ ?_
        · exact b_X8_readLine_56 hX hT  s7
        · refine zv_aload_n hX dX8_readLine_47 0 rfl ?_
          refine zv_bipush (v := (nI 7)) hX dX8_readLine_48 zi_b_7 ?_
          refine zv_cVI [.int (nI 7)] (rest := []) hX hT.2.2.2.2 (c_X8_is (zx_Y X) (nI 7) s7) wv_X8_is c9_8 zd_76 wm_X8_144 rfl (Nat.le_of_ble_eq_true rfl) (Nat.le_of_ble_eq_true rfl) rfl (Nat.le_of_ble_eq_true rfl) dX8_readLine_50 (fun r8 s9 => ?_)
          refine zv_if_eq (tgt := 70) hX dX8_readLine_53 rfl ?_ ?_
          · refine zv_aload_n hX dX8_readLine_70 0 rfl ?_
            refine zv_iconst (v := (nI 2)) hX dX8_readLine_71 zi_i_2 ?_
            refine zv_cVV [.int (nI 2)] (rest := []) hX hT.2.2.2.2 (c_X8_fails (zx_Y X) (nI 2) s9) wv_X8_fails c9_8 zd_76 wm_X8_150 rfl (Nat.le_of_ble_eq_true rfl) (Nat.le_of_ble_eq_true rfl) rfl (Nat.le_of_ble_eq_true rfl) dX8_readLine_72 (fun _ s10 => ?_)
            exact zv_sub [] rfl (b_X8_readLine_75 hX hT  s10)
          · exact b_X8_readLine_56 hX hT  s9
      · refine zv_aload_n hX dX8_readLine_31 0 rfl ?_
        refine zv_cVV [] (rest := []) hX hT.2.2.2.2 (c_X8_readEngaged (zx_Y X) s5) wv_X8_readEngaged c9_8 zd_76 wm_X8_204 rfl (Nat.le_of_ble_eq_true rfl) (Nat.le_of_ble_eq_true rfl) rfl (Nat.le_of_ble_eq_true rfl) dX8_readLine_32 (fun _ s11 => ?_)
        refine zv_goto (tgt := 75) hX dX8_readLine_35 rfl ?_
        exact zv_sub [] rfl (b_X8_readLine_75 hX hT  s11)
    · refine zv_aload_n hX dX8_readLine_16 0 rfl ?_
      refine zv_cVV [] (rest := []) hX hT.2.2.2.2 (c_X8_readPerson (zx_Y X) s3) wv_X8_readPerson c9_8 zd_76 wm_X8_201 rfl (Nat.le_of_ble_eq_true rfl) (Nat.le_of_ble_eq_true rfl) rfl (Nat.le_of_ble_eq_true rfl) dX8_readLine_17 (fun _ s12 => ?_)
      refine zv_goto (tgt := 75) hX dX8_readLine_20 rfl ?_
      exact zv_sub [] rfl (b_X8_readLine_75 hX hT  s12)
  · exact zv_vret hX hT dX8_readLine_7
